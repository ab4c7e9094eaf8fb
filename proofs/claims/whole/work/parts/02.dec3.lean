theorem dX12_why_14 : decode cX12_why 14 = .ok (.invokevirtual 91, 3) := by decide +kernel
theorem dX12_why_17 : decode cX12_why 17 = .ok (.istore_n 2, 1) := by decide +kernel
theorem dX12_why_18 : decode cX12_why 18 = .ok (.iload_n 2, 1) := by decide +kernel
theorem dX12_why_19 : decode cX12_why 19 = .ok (.ifCond .ge 8, 3) := by decide +kernel
theorem dX12_why_22 : decode cX12_why 22 = .ok (.ldc 72, 2) := by decide +kernel
theorem dX12_why_24 : decode cX12_why 24 = .ok (.goto 4, 3) := by decide +kernel
theorem dX12_why_27 : decode cX12_why 27 = .ok (.iload_n 2, 1) := by decide +kernel
theorem dX12_why_28 : decode cX12_why 28 = .ok (.ireturn, 1) := by decide +kernel
theorem dX12_two_0 : decode cX12_two 0 = .ok (.iload_n 0, 1) := by decide +kernel
theorem dX12_two_1 : decode cX12_two 1 = .ok (.tableswitch 120 (-8) (-1) #[116, 112, 108, 97, 86, 75, 61, 47], 47) := by decide +kernel
theorem dX12_two_48 : decode cX12_two 48 = .ok (.iload_n 1, 1) := by decide +kernel
theorem dX12_two_49 : decode cX12_two 49 = .ok (.ifCond .ne 7, 3) := by decide +kernel
theorem dX12_two_52 : decode cX12_two 52 = .ok (.iload_n 2, 1) := by decide +kernel
theorem dX12_two_53 : decode cX12_two 53 = .ok (.ifCond .eq 7, 3) := by decide +kernel
theorem dX12_two_56 : decode cX12_two 56 = .ok (.iconst 1, 1) := by decide +kernel
theorem dX12_two_57 : decode cX12_two 57 = .ok (.goto 4, 3) := by decide +kernel
theorem dX12_two_60 : decode cX12_two 60 = .ok (.iconst 0, 1) := by decide +kernel
theorem dX12_two_61 : decode cX12_two 61 = .ok (.ireturn, 1) := by decide +kernel
theorem dX12_two_62 : decode cX12_two 62 = .ok (.iload_n 1, 1) := by decide +kernel
theorem dX12_two_63 : decode cX12_two 63 = .ok (.ifCond .eq 11, 3) := by decide +kernel
theorem dX12_two_66 : decode cX12_two 66 = .ok (.iload_n 2, 1) := by decide +kernel
theorem dX12_two_67 : decode cX12_two 67 = .ok (.ifCond .eq 7, 3) := by decide +kernel
theorem dX12_two_70 : decode cX12_two 70 = .ok (.iconst 1, 1) := by decide +kernel
theorem dX12_two_71 : decode cX12_two 71 = .ok (.goto 4, 3) := by decide +kernel
theorem dX12_two_74 : decode cX12_two 74 = .ok (.iconst 0, 1) := by decide +kernel
theorem dX12_two_75 : decode cX12_two 75 = .ok (.ireturn, 1) := by decide +kernel
theorem dX12_two_76 : decode cX12_two 76 = .ok (.iload_n 1, 1) := by decide +kernel
theorem dX12_two_77 : decode cX12_two 77 = .ok (.iload_n 2, 1) := by decide +kernel
theorem dX12_two_78 : decode cX12_two 78 = .ok (.if_icmp .ge 7, 3) := by decide +kernel
theorem dX12_two_81 : decode cX12_two 81 = .ok (.iconst 1, 1) := by decide +kernel
theorem dX12_two_82 : decode cX12_two 82 = .ok (.goto 4, 3) := by decide +kernel
theorem dX12_two_85 : decode cX12_two 85 = .ok (.iconst 0, 1) := by decide +kernel
theorem dX12_two_86 : decode cX12_two 86 = .ok (.ireturn, 1) := by decide +kernel
theorem dX12_two_87 : decode cX12_two 87 = .ok (.iload_n 1, 1) := by decide +kernel
theorem dX12_two_88 : decode cX12_two 88 = .ok (.iload_n 2, 1) := by decide +kernel
theorem dX12_two_89 : decode cX12_two 89 = .ok (.if_icmp .ne 7, 3) := by decide +kernel
theorem dX12_two_92 : decode cX12_two 92 = .ok (.iconst 1, 1) := by decide +kernel
theorem dX12_two_93 : decode cX12_two 93 = .ok (.goto 4, 3) := by decide +kernel
theorem dX12_two_96 : decode cX12_two 96 = .ok (.iconst 0, 1) := by decide +kernel
theorem dX12_two_97 : decode cX12_two 97 = .ok (.ireturn, 1) := by decide +kernel
theorem dX12_two_98 : decode cX12_two 98 = .ok (.iload_n 1, 1) := by decide +kernel
theorem dX12_two_99 : decode cX12_two 99 = .ok (.iload_n 2, 1) := by decide +kernel
theorem dX12_two_100 : decode cX12_two 100 = .ok (.if_icmp .le 7, 3) := by decide +kernel
theorem dX12_two_103 : decode cX12_two 103 = .ok (.iconst 1, 1) := by decide +kernel
theorem dX12_two_104 : decode cX12_two 104 = .ok (.goto 4, 3) := by decide +kernel
theorem dX12_two_107 : decode cX12_two 107 = .ok (.iconst 0, 1) := by decide +kernel
theorem dX12_two_108 : decode cX12_two 108 = .ok (.ireturn, 1) := by decide +kernel
theorem dX12_two_109 : decode cX12_two 109 = .ok (.iload_n 1, 1) := by decide +kernel
theorem dX12_two_110 : decode cX12_two 110 = .ok (.iload_n 2, 1) := by decide +kernel
theorem dX12_two_111 : decode cX12_two 111 = .ok (.iadd, 1) := by decide +kernel
theorem dX12_two_112 : decode cX12_two 112 = .ok (.ireturn, 1) := by decide +kernel
theorem dX12_two_113 : decode cX12_two 113 = .ok (.iload_n 1, 1) := by decide +kernel
theorem dX12_two_114 : decode cX12_two 114 = .ok (.iload_n 2, 1) := by decide +kernel
theorem dX12_two_115 : decode cX12_two 115 = .ok (.isub, 1) := by decide +kernel
theorem dX12_two_116 : decode cX12_two 116 = .ok (.ireturn, 1) := by decide +kernel
theorem dX12_two_117 : decode cX12_two 117 = .ok (.iload_n 1, 1) := by decide +kernel
theorem dX12_two_118 : decode cX12_two 118 = .ok (.iload_n 2, 1) := by decide +kernel
theorem dX12_two_119 : decode cX12_two 119 = .ok (.imul, 1) := by decide +kernel
theorem dX12_two_120 : decode cX12_two 120 = .ok (.ireturn, 1) := by decide +kernel
theorem dX12_two_121 : decode cX12_two 121 = .ok (.iload_n 2, 1) := by decide +kernel
theorem dX12_two_122 : decode cX12_two 122 = .ok (.ifCond .ne 7, 3) := by decide +kernel
theorem dX12_two_125 : decode cX12_two 125 = .ok (.iconst 0, 1) := by decide +kernel
theorem dX12_two_126 : decode cX12_two 126 = .ok (.goto 6, 3) := by decide +kernel
theorem dX12_two_129 : decode cX12_two 129 = .ok (.iload_n 1, 1) := by decide +kernel
theorem dX12_two_130 : decode cX12_two 130 = .ok (.iload_n 2, 1) := by decide +kernel
theorem dX12_two_131 : decode cX12_two 131 = .ok (.idiv, 1) := by decide +kernel
theorem dX12_two_132 : decode cX12_two 132 = .ok (.ireturn, 1) := by decide +kernel
theorem dX12_worksOut_0 : decode cX12_worksOut 0 = .ok (.iconst 0, 1) := by decide +kernel
theorem dX12_worksOut_1 : decode cX12_worksOut 1 = .ok (.istore_n 2, 1) := by decide +kernel
theorem dX12_worksOut_2 : decode cX12_worksOut 2 = .ok (.aload_n 0, 1) := by decide +kernel
theorem dX12_worksOut_3 : decode cX12_worksOut 3 = .ok (.getfield 9, 3) := by decide +kernel
theorem dX12_worksOut_6 : decode cX12_worksOut 6 = .ok (.bipush 110, 2) := by decide +kernel
theorem dX12_worksOut_8 : decode cX12_worksOut 8 = .ok (.iconst 2, 1) := by decide +kernel
theorem dX12_worksOut_9 : decode cX12_worksOut 9 = .ok (.iload_n 1, 1) := by decide +kernel
theorem dX12_worksOut_10 : decode cX12_worksOut 10 = .ok (.imul, 1) := by decide +kernel
theorem dX12_worksOut_11 : decode cX12_worksOut 11 = .ok (.iadd, 1) := by decide +kernel
theorem dX12_worksOut_12 : decode cX12_worksOut 12 = .ok (.iaload, 1) := by decide +kernel
theorem dX12_worksOut_13 : decode cX12_worksOut 13 = .ok (.sipush 1000, 3) := by decide +kernel
theorem dX12_worksOut_16 : decode cX12_worksOut 16 = .ok (.irem, 1) := by decide +kernel
theorem dX12_worksOut_17 : decode cX12_worksOut 17 = .ok (.istore_n 3, 1) := by decide +kernel
theorem dX12_worksOut_18 : decode cX12_worksOut 18 = .ok (.iconst 0, 1) := by decide +kernel
theorem dX12_worksOut_19 : decode cX12_worksOut 19 = .ok (.istore 4, 2) := by decide +kernel
theorem dX12_worksOut_21 : decode cX12_worksOut 21 = .ok (.iload 4, 2) := by decide +kernel
theorem dX12_worksOut_23 : decode cX12_worksOut 23 = .ok (.iload_n 3, 1) := by decide +kernel
theorem dX12_worksOut_24 : decode cX12_worksOut 24 = .ok (.if_icmp .ge 132, 3) := by decide +kernel
theorem dX12_worksOut_27 : decode cX12_worksOut 27 = .ok (.aload_n 0, 1) := by decide +kernel
theorem dX12_worksOut_28 : decode cX12_worksOut 28 = .ok (.getfield 9, 3) := by decide +kernel
theorem dX12_worksOut_31 : decode cX12_worksOut 31 = .ok (.sipush 138, 3) := by decide +kernel
theorem dX12_worksOut_34 : decode cX12_worksOut 34 = .ok (.bipush 96, 2) := by decide +kernel
theorem dX12_worksOut_36 : decode cX12_worksOut 36 = .ok (.iload_n 1, 1) := by decide +kernel
theorem dX12_worksOut_37 : decode cX12_worksOut 37 = .ok (.imul, 1) := by decide +kernel
theorem dX12_worksOut_38 : decode cX12_worksOut 38 = .ok (.iadd, 1) := by decide +kernel
theorem dX12_worksOut_39 : decode cX12_worksOut 39 = .ok (.iload 4, 2) := by decide +kernel
theorem dX12_worksOut_41 : decode cX12_worksOut 41 = .ok (.iadd, 1) := by decide +kernel
theorem dX12_worksOut_42 : decode cX12_worksOut 42 = .ok (.iaload, 1) := by decide +kernel
theorem dX12_worksOut_43 : decode cX12_worksOut 43 = .ok (.istore 5, 2) := by decide +kernel
theorem dX12_worksOut_45 : decode cX12_worksOut 45 = .ok (.iload 5, 2) := by decide +kernel
theorem dX12_worksOut_47 : decode cX12_worksOut 47 = .ok (.ifCond .lt 39, 3) := by decide +kernel
theorem dX12_worksOut_50 : decode cX12_worksOut 50 = .ok (.aload_n 0, 1) := by decide +kernel
theorem dX12_worksOut_51 : decode cX12_worksOut 51 = .ok (.getfield 39, 3) := by decide +kernel
theorem dX12_worksOut_54 : decode cX12_worksOut 54 = .ok (.iload_n 2, 1) := by decide +kernel
theorem dX12_worksOut_55 : decode cX12_worksOut 55 = .ok (.iload 5, 2) := by decide +kernel
theorem dX12_worksOut_57 : decode cX12_worksOut 57 = .ok (.sipush 10000, 3) := by decide +kernel
theorem dX12_worksOut_60 : decode cX12_worksOut 60 = .ok (.if_icmp .ge 8, 3) := by decide +kernel
theorem dX12_worksOut_63 : decode cX12_worksOut 63 = .ok (.iload 5, 2) := by decide +kernel
theorem dX12_worksOut_65 : decode cX12_worksOut 65 = .ok (.goto 14, 3) := by decide +kernel
theorem dX12_worksOut_68 : decode cX12_worksOut 68 = .ok (.aload_n 0, 1) := by decide +kernel
theorem dX12_worksOut_69 : decode cX12_worksOut 69 = .ok (.getfield 42, 3) := by decide +kernel
theorem dX12_worksOut_72 : decode cX12_worksOut 72 = .ok (.iload 5, 2) := by decide +kernel
theorem dX12_worksOut_74 : decode cX12_worksOut 74 = .ok (.sipush 10000, 3) := by decide +kernel
theorem dX12_worksOut_77 : decode cX12_worksOut 77 = .ok (.isub, 1) := by decide +kernel
theorem dX12_worksOut_78 : decode cX12_worksOut 78 = .ok (.iaload, 1) := by decide +kernel
theorem dX12_worksOut_79 : decode cX12_worksOut 79 = .ok (.iastore, 1) := by decide +kernel
theorem dX12_worksOut_80 : decode cX12_worksOut 80 = .ok (.iinc 2 1, 3) := by decide +kernel
theorem dX12_worksOut_83 : decode cX12_worksOut 83 = .ok (.goto 67, 3) := by decide +kernel
theorem dX12_worksOut_86 : decode cX12_worksOut 86 = .ok (.iload 5, 2) := by decide +kernel
theorem dX12_worksOut_88 : decode cX12_worksOut 88 = .ok (.bipush (-10), 2) := by decide +kernel
theorem dX12_worksOut_90 : decode cX12_worksOut 90 = .ok (.if_icmp .ne 30, 3) := by decide +kernel
theorem dX12_worksOut_93 : decode cX12_worksOut 93 = .ok (.aload_n 0, 1) := by decide +kernel
theorem dX12_worksOut_94 : decode cX12_worksOut 94 = .ok (.getfield 39, 3) := by decide +kernel
theorem dX12_worksOut_97 : decode cX12_worksOut 97 = .ok (.iload_n 2, 1) := by decide +kernel
theorem dX12_worksOut_98 : decode cX12_worksOut 98 = .ok (.iconst 1, 1) := by decide +kernel
theorem dX12_worksOut_99 : decode cX12_worksOut 99 = .ok (.isub, 1) := by decide +kernel
theorem dX12_worksOut_100 : decode cX12_worksOut 100 = .ok (.aload_n 0, 1) := by decide +kernel
theorem dX12_worksOut_101 : decode cX12_worksOut 101 = .ok (.getfield 39, 3) := by decide +kernel
theorem dX12_worksOut_104 : decode cX12_worksOut 104 = .ok (.iload_n 2, 1) := by decide +kernel
theorem dX12_worksOut_105 : decode cX12_worksOut 105 = .ok (.iconst 1, 1) := by decide +kernel
theorem dX12_worksOut_106 : decode cX12_worksOut 106 = .ok (.isub, 1) := by decide +kernel
theorem dX12_worksOut_107 : decode cX12_worksOut 107 = .ok (.iaload, 1) := by decide +kernel
theorem dX12_worksOut_108 : decode cX12_worksOut 108 = .ok (.ifCond .ne 7, 3) := by decide +kernel
theorem dX12_worksOut_111 : decode cX12_worksOut 111 = .ok (.iconst 1, 1) := by decide +kernel
theorem dX12_worksOut_112 : decode cX12_worksOut 112 = .ok (.goto 4, 3) := by decide +kernel
theorem dX12_worksOut_115 : decode cX12_worksOut 115 = .ok (.iconst 0, 1) := by decide +kernel
theorem dX12_worksOut_116 : decode cX12_worksOut 116 = .ok (.iastore, 1) := by decide +kernel
theorem dX12_worksOut_117 : decode cX12_worksOut 117 = .ok (.goto 33, 3) := by decide +kernel
theorem dX12_worksOut_120 : decode cX12_worksOut 120 = .ok (.iinc 2 (-1), 3) := by decide +kernel
theorem dX12_worksOut_123 : decode cX12_worksOut 123 = .ok (.aload_n 0, 1) := by decide +kernel
theorem dX12_worksOut_124 : decode cX12_worksOut 124 = .ok (.getfield 39, 3) := by decide +kernel
theorem dX12_worksOut_127 : decode cX12_worksOut 127 = .ok (.iload_n 2, 1) := by decide +kernel
theorem dX12_worksOut_128 : decode cX12_worksOut 128 = .ok (.iconst 1, 1) := by decide +kernel
theorem dX12_worksOut_129 : decode cX12_worksOut 129 = .ok (.isub, 1) := by decide +kernel
theorem dX12_worksOut_130 : decode cX12_worksOut 130 = .ok (.iload 5, 2) := by decide +kernel
theorem dX12_worksOut_132 : decode cX12_worksOut 132 = .ok (.aload_n 0, 1) := by decide +kernel
theorem dX12_worksOut_133 : decode cX12_worksOut 133 = .ok (.getfield 39, 3) := by decide +kernel
theorem dX12_worksOut_136 : decode cX12_worksOut 136 = .ok (.iload_n 2, 1) := by decide +kernel
theorem dX12_worksOut_137 : decode cX12_worksOut 137 = .ok (.iconst 1, 1) := by decide +kernel
theorem dX12_worksOut_138 : decode cX12_worksOut 138 = .ok (.isub, 1) := by decide +kernel
theorem dX12_worksOut_139 : decode cX12_worksOut 139 = .ok (.iaload, 1) := by decide +kernel
theorem dX12_worksOut_140 : decode cX12_worksOut 140 = .ok (.aload_n 0, 1) := by decide +kernel
theorem dX12_worksOut_141 : decode cX12_worksOut 141 = .ok (.getfield 39, 3) := by decide +kernel
theorem dX12_worksOut_144 : decode cX12_worksOut 144 = .ok (.iload_n 2, 1) := by decide +kernel
theorem dX12_worksOut_145 : decode cX12_worksOut 145 = .ok (.iaload, 1) := by decide +kernel
theorem dX12_worksOut_146 : decode cX12_worksOut 146 = .ok (.invokestatic 255, 3) := by decide +kernel
theorem dX12_worksOut_149 : decode cX12_worksOut 149 = .ok (.iastore, 1) := by decide +kernel
theorem dX12_worksOut_150 : decode cX12_worksOut 150 = .ok (.iinc 4 1, 3) := by decide +kernel
theorem dX12_worksOut_153 : decode cX12_worksOut 153 = .ok (.goto (-132), 3) := by decide +kernel
theorem dX12_worksOut_156 : decode cX12_worksOut 156 = .ok (.aload_n 0, 1) := by decide +kernel
theorem dX12_worksOut_157 : decode cX12_worksOut 157 = .ok (.getfield 39, 3) := by decide +kernel
theorem dX12_worksOut_160 : decode cX12_worksOut 160 = .ok (.iconst 0, 1) := by decide +kernel
theorem dX12_worksOut_161 : decode cX12_worksOut 161 = .ok (.iaload, 1) := by decide +kernel
theorem dX12_worksOut_162 : decode cX12_worksOut 162 = .ok (.ireturn, 1) := by decide +kernel
theorem dX12_isSheet_0 : decode cX12_isSheet 0 = .ok (.iload_n 0, 1) := by decide +kernel
theorem dX12_isSheet_1 : decode cX12_isSheet 1 = .ok (.iconst 0, 1) := by decide +kernel
theorem dX12_isSheet_2 : decode cX12_isSheet 2 = .ok (.iconst 3, 1) := by decide +kernel
theorem dX12_isSheet_3 : decode cX12_isSheet 3 = .ok (.invokestatic 73, 3) := by decide +kernel
theorem dX12_isSheet_6 : decode cX12_isSheet 6 = .ok (.ireturn, 1) := by decide +kernel
theorem dX12_isSlot_0 : decode cX12_isSlot 0 = .ok (.iload_n 0, 1) := by decide +kernel
theorem dX12_isSlot_1 : decode cX12_isSlot 1 = .ok (.iconst 0, 1) := by decide +kernel
theorem dX12_isSlot_2 : decode cX12_isSlot 2 = .ok (.iconst 4, 1) := by decide +kernel
theorem dX12_isSlot_3 : decode cX12_isSlot 3 = .ok (.invokestatic 73, 3) := by decide +kernel
theorem dX12_isSlot_6 : decode cX12_isSlot 6 = .ok (.ireturn, 1) := by decide +kernel
theorem dX12_sheet_0 : decode cX12_sheet 0 = .ok (.iload_n 1, 1) := by decide +kernel
theorem dX12_sheet_1 : decode cX12_sheet 1 = .ok (.invokestatic 258, 3) := by decide +kernel
theorem dX12_sheet_4 : decode cX12_sheet 4 = .ok (.ifCond .eq 22, 3) := by decide +kernel
theorem dX12_sheet_7 : decode cX12_sheet 7 = .ok (.iload_n 2, 1) := by decide +kernel
theorem dX12_sheet_8 : decode cX12_sheet 8 = .ok (.iconst (-1), 1) := by decide +kernel
theorem dX12_sheet_9 : decode cX12_sheet 9 = .ok (.iconst 1, 1) := by decide +kernel
theorem dX12_sheet_10 : decode cX12_sheet 10 = .ok (.invokestatic 73, 3) := by decide +kernel
theorem dX12_sheet_13 : decode cX12_sheet 13 = .ok (.ifCond .eq 13, 3) := by decide +kernel
theorem dX12_sheet_16 : decode cX12_sheet 16 = .ok (.iload_n 2, 1) := by decide +kernel
theorem dX12_sheet_17 : decode cX12_sheet 17 = .ok (.ifCond .lt 12, 3) := by decide +kernel
theorem dX12_sheet_20 : decode cX12_sheet 20 = .ok (.iload_n 3, 1) := by decide +kernel
theorem dX12_sheet_21 : decode cX12_sheet 21 = .ok (.bipush 24, 2) := by decide +kernel
theorem dX12_sheet_23 : decode cX12_sheet 23 = .ok (.if_icmp .le 6, 3) := by decide +kernel
theorem dX12_sheet_26 : decode cX12_sheet 26 = .ok (.ldc 78, 2) := by decide +kernel
theorem dX12_sheet_28 : decode cX12_sheet 28 = .ok (.ireturn, 1) := by decide +kernel
theorem dX12_sheet_29 : decode cX12_sheet 29 = .ok (.iload_n 2, 1) := by decide +kernel
theorem dX12_sheet_30 : decode cX12_sheet 30 = .ok (.ifCond .lt 11, 3) := by decide +kernel
theorem dX12_sheet_33 : decode cX12_sheet 33 = .ok (.iload_n 3, 1) := by decide +kernel
theorem dX12_sheet_34 : decode cX12_sheet 34 = .ok (.ifCond .ge 7, 3) := by decide +kernel
theorem dX12_sheet_37 : decode cX12_sheet 37 = .ok (.ldc_w 261, 3) := by decide +kernel
theorem dX12_sheet_40 : decode cX12_sheet 40 = .ok (.ireturn, 1) := by decide +kernel
theorem dX12_sheet_41 : decode cX12_sheet 41 = .ok (.aload_n 0, 1) := by decide +kernel
theorem dX12_sheet_42 : decode cX12_sheet 42 = .ok (.getfield 45, 3) := by decide +kernel
theorem dX12_sheet_45 : decode cX12_sheet 45 = .ok (.iload_n 1, 1) := by decide +kernel
theorem dX12_sheet_46 : decode cX12_sheet 46 = .ok (.iload_n 2, 1) := by decide +kernel
theorem dX12_sheet_47 : decode cX12_sheet 47 = .ok (.iastore, 1) := by decide +kernel
theorem dX12_sheet_48 : decode cX12_sheet 48 = .ok (.aload_n 0, 1) := by decide +kernel
theorem dX12_sheet_49 : decode cX12_sheet 49 = .ok (.getfield 48, 3) := by decide +kernel
theorem dX12_sheet_52 : decode cX12_sheet 52 = .ok (.iload_n 1, 1) := by decide +kernel
theorem dX12_sheet_53 : decode cX12_sheet 53 = .ok (.iload_n 2, 1) := by decide +kernel
theorem dX12_sheet_54 : decode cX12_sheet 54 = .ok (.ifCond .ge 7, 3) := by decide +kernel
theorem dX12_sheet_57 : decode cX12_sheet 57 = .ok (.iconst 0, 1) := by decide +kernel
theorem dX12_sheet_58 : decode cX12_sheet 58 = .ok (.goto 4, 3) := by decide +kernel
theorem dX12_sheet_61 : decode cX12_sheet 61 = .ok (.iload_n 3, 1) := by decide +kernel
theorem dX12_sheet_62 : decode cX12_sheet 62 = .ok (.iastore, 1) := by decide +kernel
theorem dX12_sheet_63 : decode cX12_sheet 63 = .ok (.iconst 0, 1) := by decide +kernel
theorem dX12_sheet_64 : decode cX12_sheet 64 = .ok (.istore 4, 2) := by decide +kernel
theorem dX12_sheet_66 : decode cX12_sheet 66 = .ok (.iload 4, 2) := by decide +kernel
theorem dX12_sheet_68 : decode cX12_sheet 68 = .ok (.bipush 24, 2) := by decide +kernel
theorem dX12_sheet_70 : decode cX12_sheet 70 = .ok (.if_icmp .ge 22, 3) := by decide +kernel
theorem dX12_sheet_73 : decode cX12_sheet 73 = .ok (.aload_n 0, 1) := by decide +kernel
theorem dX12_sheet_74 : decode cX12_sheet 74 = .ok (.getfield 51, 3) := by decide +kernel
theorem dX12_sheet_77 : decode cX12_sheet 77 = .ok (.bipush 24, 2) := by decide +kernel
theorem dX12_sheet_79 : decode cX12_sheet 79 = .ok (.iload_n 1, 1) := by decide +kernel
theorem dX12_sheet_80 : decode cX12_sheet 80 = .ok (.imul, 1) := by decide +kernel
theorem dX12_sheet_81 : decode cX12_sheet 81 = .ok (.iload 4, 2) := by decide +kernel
theorem dX12_sheet_83 : decode cX12_sheet 83 = .ok (.iadd, 1) := by decide +kernel
theorem dX12_sheet_84 : decode cX12_sheet 84 = .ok (.iconst 0, 1) := by decide +kernel
theorem dX12_sheet_85 : decode cX12_sheet 85 = .ok (.iastore, 1) := by decide +kernel
theorem dX12_sheet_86 : decode cX12_sheet 86 = .ok (.iinc 4 1, 3) := by decide +kernel
theorem dX12_sheet_89 : decode cX12_sheet 89 = .ok (.goto (-23), 3) := by decide +kernel
theorem dX12_sheet_92 : decode cX12_sheet 92 = .ok (.aload_n 0, 1) := by decide +kernel
theorem dX12_sheet_93 : decode cX12_sheet 93 = .ok (.getfield 48, 3) := by decide +kernel
theorem dX12_sheet_96 : decode cX12_sheet 96 = .ok (.iload_n 1, 1) := by decide +kernel
theorem dX12_sheet_97 : decode cX12_sheet 97 = .ok (.iaload, 1) := by decide +kernel
theorem dX12_sheet_98 : decode cX12_sheet 98 = .ok (.ireturn, 1) := by decide +kernel
theorem dX12_mark_0 : decode cX12_mark 0 = .ok (.iload_n 1, 1) := by decide +kernel
theorem dX12_mark_1 : decode cX12_mark 1 = .ok (.invokestatic 258, 3) := by decide +kernel
theorem dX12_mark_4 : decode cX12_mark 4 = .ok (.ifCond .ne 6, 3) := by decide +kernel
theorem dX12_mark_7 : decode cX12_mark 7 = .ok (.ldc 78, 2) := by decide +kernel
theorem dX12_mark_9 : decode cX12_mark 9 = .ok (.ireturn, 1) := by decide +kernel
theorem dX12_mark_10 : decode cX12_mark 10 = .ok (.aload_n 0, 1) := by decide +kernel
theorem dX12_mark_11 : decode cX12_mark 11 = .ok (.getfield 45, 3) := by decide +kernel
theorem dX12_mark_14 : decode cX12_mark 14 = .ok (.iload_n 1, 1) := by decide +kernel
theorem dX12_mark_15 : decode cX12_mark 15 = .ok (.iaload, 1) := by decide +kernel
theorem dX12_mark_16 : decode cX12_mark 16 = .ok (.ifCond .ge 7, 3) := by decide +kernel
theorem dX12_mark_19 : decode cX12_mark 19 = .ok (.ldc_w 262, 3) := by decide +kernel
theorem dX12_mark_22 : decode cX12_mark 22 = .ok (.ireturn, 1) := by decide +kernel
theorem dX12_mark_23 : decode cX12_mark 23 = .ok (.iload_n 2, 1) := by decide +kernel
theorem dX12_mark_24 : decode cX12_mark 24 = .ok (.iconst 0, 1) := by decide +kernel
theorem dX12_mark_25 : decode cX12_mark 25 = .ok (.aload_n 0, 1) := by decide +kernel
theorem dX12_mark_26 : decode cX12_mark 26 = .ok (.getfield 48, 3) := by decide +kernel
theorem dX12_mark_29 : decode cX12_mark 29 = .ok (.iload_n 1, 1) := by decide +kernel
theorem dX12_mark_30 : decode cX12_mark 30 = .ok (.iaload, 1) := by decide +kernel
theorem dX12_mark_31 : decode cX12_mark 31 = .ok (.iconst 1, 1) := by decide +kernel
theorem dX12_mark_32 : decode cX12_mark 32 = .ok (.isub, 1) := by decide +kernel
theorem dX12_mark_33 : decode cX12_mark 33 = .ok (.invokestatic 73, 3) := by decide +kernel
theorem dX12_mark_36 : decode cX12_mark 36 = .ok (.ifCond .ne 7, 3) := by decide +kernel
theorem dX12_mark_39 : decode cX12_mark 39 = .ok (.ldc_w 263, 3) := by decide +kernel
theorem dX12_mark_42 : decode cX12_mark 42 = .ok (.ireturn, 1) := by decide +kernel
theorem dX12_mark_43 : decode cX12_mark 43 = .ok (.aload_n 0, 1) := by decide +kernel
theorem dX12_mark_44 : decode cX12_mark 44 = .ok (.getfield 45, 3) := by decide +kernel
theorem dX12_mark_47 : decode cX12_mark 47 = .ok (.iload_n 1, 1) := by decide +kernel
theorem dX12_mark_48 : decode cX12_mark 48 = .ok (.iaload, 1) := by decide +kernel
theorem dX12_mark_49 : decode cX12_mark 49 = .ok (.ifCond .ne 12, 3) := by decide +kernel
theorem dX12_mark_52 : decode cX12_mark 52 = .ok (.iload_n 3, 1) := by decide +kernel
theorem dX12_mark_53 : decode cX12_mark 53 = .ok (.ldc 72, 2) := by decide +kernel
theorem dX12_mark_55 : decode cX12_mark 55 = .ok (.if_icmp .ne 6, 3) := by decide +kernel
theorem dX12_mark_58 : decode cX12_mark 58 = .ok (.ldc 150, 2) := by decide +kernel
theorem dX12_mark_60 : decode cX12_mark 60 = .ok (.ireturn, 1) := by decide +kernel
theorem dX12_mark_61 : decode cX12_mark 61 = .ok (.aload_n 0, 1) := by decide +kernel
theorem dX12_mark_62 : decode cX12_mark 62 = .ok (.getfield 45, 3) := by decide +kernel
theorem dX12_mark_65 : decode cX12_mark 65 = .ok (.iload_n 1, 1) := by decide +kernel
theorem dX12_mark_66 : decode cX12_mark 66 = .ok (.iaload, 1) := by decide +kernel
theorem dX12_mark_67 : decode cX12_mark 67 = .ok (.iconst 1, 1) := by decide +kernel
theorem dX12_mark_68 : decode cX12_mark 68 = .ok (.if_icmp .ne 24, 3) := by decide +kernel
theorem dX12_mark_71 : decode cX12_mark 71 = .ok (.iload_n 3, 1) := by decide +kernel
theorem dX12_mark_72 : decode cX12_mark 72 = .ok (.ldc 72, 2) := by decide +kernel
theorem dX12_mark_74 : decode cX12_mark 74 = .ok (.if_icmp .eq 18, 3) := by decide +kernel
theorem dX12_mark_77 : decode cX12_mark 77 = .ok (.iload_n 3, 1) := by decide +kernel
theorem dX12_mark_78 : decode cX12_mark 78 = .ok (.ldc_w 264, 3) := by decide +kernel
theorem dX12_mark_81 : decode cX12_mark 81 = .ok (.ldc 157, 2) := by decide +kernel
theorem dX12_mark_83 : decode cX12_mark 83 = .ok (.invokestatic 73, 3) := by decide +kernel
theorem dX12_mark_86 : decode cX12_mark 86 = .ok (.ifCond .ne 6, 3) := by decide +kernel
theorem dX12_mark_89 : decode cX12_mark 89 = .ok (.ldc 78, 2) := by decide +kernel
theorem dX12_mark_91 : decode cX12_mark 91 = .ok (.ireturn, 1) := by decide +kernel
theorem dX12_mark_92 : decode cX12_mark 92 = .ok (.aload_n 0, 1) := by decide +kernel
theorem dX12_mark_93 : decode cX12_mark 93 = .ok (.getfield 51, 3) := by decide +kernel
theorem dX12_mark_96 : decode cX12_mark 96 = .ok (.bipush 24, 2) := by decide +kernel
theorem dX12_mark_98 : decode cX12_mark 98 = .ok (.iload_n 1, 1) := by decide +kernel
theorem dX12_mark_99 : decode cX12_mark 99 = .ok (.imul, 1) := by decide +kernel
theorem dX12_mark_100 : decode cX12_mark 100 = .ok (.iload_n 2, 1) := by decide +kernel
theorem dX12_mark_101 : decode cX12_mark 101 = .ok (.iadd, 1) := by decide +kernel
theorem dX12_mark_102 : decode cX12_mark 102 = .ok (.aload_n 0, 1) := by decide +kernel
theorem dX12_mark_103 : decode cX12_mark 103 = .ok (.getfield 45, 3) := by decide +kernel
theorem dX12_mark_106 : decode cX12_mark 106 = .ok (.iload_n 1, 1) := by decide +kernel
theorem dX12_mark_107 : decode cX12_mark 107 = .ok (.iaload, 1) := by decide +kernel
theorem dX12_mark_108 : decode cX12_mark 108 = .ok (.ifCond .ne 8, 3) := by decide +kernel
theorem dX12_mark_111 : decode cX12_mark 111 = .ok (.iload_n 3, 1) := by decide +kernel
theorem dX12_mark_112 : decode cX12_mark 112 = .ok (.i2s, 1) := by decide +kernel
theorem dX12_mark_113 : decode cX12_mark 113 = .ok (.goto 4, 3) := by decide +kernel
theorem dX12_mark_116 : decode cX12_mark 116 = .ok (.iload_n 3, 1) := by decide +kernel
theorem dX12_mark_117 : decode cX12_mark 117 = .ok (.iastore, 1) := by decide +kernel
theorem dX12_mark_118 : decode cX12_mark 118 = .ok (.iconst 1, 1) := by decide +kernel
theorem dX12_mark_119 : decode cX12_mark 119 = .ok (.ireturn, 1) := by decide +kernel
theorem dX12_pour_0 : decode cX12_pour 0 = .ok (.iload_n 1, 1) := by decide +kernel
theorem dX12_pour_1 : decode cX12_pour 1 = .ok (.invokestatic 258, 3) := by decide +kernel
theorem dX12_pour_4 : decode cX12_pour 4 = .ok (.ifCond .ne 6, 3) := by decide +kernel
theorem dX12_pour_7 : decode cX12_pour 7 = .ok (.ldc 78, 2) := by decide +kernel
theorem dX12_pour_9 : decode cX12_pour 9 = .ok (.ireturn, 1) := by decide +kernel
theorem dX12_pour_10 : decode cX12_pour 10 = .ok (.aload_n 0, 1) := by decide +kernel
theorem dX12_pour_11 : decode cX12_pour 11 = .ok (.getfield 45, 3) := by decide +kernel
theorem dX12_pour_14 : decode cX12_pour 14 = .ok (.iload_n 1, 1) := by decide +kernel
theorem dX12_pour_15 : decode cX12_pour 15 = .ok (.iaload, 1) := by decide +kernel
theorem dX12_pour_16 : decode cX12_pour 16 = .ok (.ifCond .ge 7, 3) := by decide +kernel
theorem dX12_pour_19 : decode cX12_pour 19 = .ok (.ldc_w 262, 3) := by decide +kernel
theorem dX12_pour_22 : decode cX12_pour 22 = .ok (.ireturn, 1) := by decide +kernel
theorem dX12_pour_23 : decode cX12_pour 23 = .ok (.iconst 0, 1) := by decide +kernel
theorem dX12_pour_24 : decode cX12_pour 24 = .ok (.istore_n 2, 1) := by decide +kernel
theorem dX12_pour_25 : decode cX12_pour 25 = .ok (.iconst 0, 1) := by decide +kernel
theorem dX12_pour_26 : decode cX12_pour 26 = .ok (.istore_n 3, 1) := by decide +kernel
theorem dX12_pour_27 : decode cX12_pour 27 = .ok (.iload_n 3, 1) := by decide +kernel
theorem dX12_pour_28 : decode cX12_pour 28 = .ok (.aload_n 0, 1) := by decide +kernel
theorem dX12_pour_29 : decode cX12_pour 29 = .ok (.getfield 48, 3) := by decide +kernel
theorem dX12_pour_32 : decode cX12_pour 32 = .ok (.iload_n 1, 1) := by decide +kernel
theorem dX12_pour_33 : decode cX12_pour 33 = .ok (.iaload, 1) := by decide +kernel
theorem dX12_pour_34 : decode cX12_pour 34 = .ok (.if_icmp .ge 91, 3) := by decide +kernel
theorem dX12_pour_37 : decode cX12_pour 37 = .ok (.iload_n 3, 1) := by decide +kernel
theorem dX12_pour_38 : decode cX12_pour 38 = .ok (.iconst 2, 1) := by decide +kernel
theorem dX12_pour_39 : decode cX12_pour 39 = .ok (.aload_n 0, 1) := by decide +kernel
theorem dX12_pour_40 : decode cX12_pour 40 = .ok (.getfield 9, 3) := by decide +kernel
theorem dX12_pour_43 : decode cX12_pour 43 = .ok (.iconst 2, 1) := by decide +kernel
theorem dX12_pour_44 : decode cX12_pour 44 = .ok (.iaload, 1) := by decide +kernel
theorem dX12_pour_45 : decode cX12_pour 45 = .ok (.imul, 1) := by decide +kernel
theorem dX12_pour_46 : decode cX12_pour 46 = .ok (.if_icmp .ge 79, 3) := by decide +kernel
theorem dX12_pour_49 : decode cX12_pour 49 = .ok (.aload_n 0, 1) := by decide +kernel
theorem dX12_pour_50 : decode cX12_pour 50 = .ok (.getfield 51, 3) := by decide +kernel
theorem dX12_pour_53 : decode cX12_pour 53 = .ok (.bipush 24, 2) := by decide +kernel
theorem dX12_pour_55 : decode cX12_pour 55 = .ok (.iload_n 1, 1) := by decide +kernel
theorem dX12_pour_56 : decode cX12_pour 56 = .ok (.imul, 1) := by decide +kernel
theorem dX12_pour_57 : decode cX12_pour 57 = .ok (.iload_n 3, 1) := by decide +kernel
theorem dX12_pour_58 : decode cX12_pour 58 = .ok (.iadd, 1) := by decide +kernel
theorem dX12_pour_59 : decode cX12_pour 59 = .ok (.iaload, 1) := by decide +kernel
theorem dX12_pour_60 : decode cX12_pour 60 = .ok (.istore 4, 2) := by decide +kernel
theorem dX12_pour_62 : decode cX12_pour 62 = .ok (.iload 4, 2) := by decide +kernel
theorem dX12_pour_64 : decode cX12_pour 64 = .ok (.ldc 72, 2) := by decide +kernel
theorem dX12_pour_66 : decode cX12_pour 66 = .ok (.if_icmp .eq 17, 3) := by decide +kernel
theorem dX12_pour_69 : decode cX12_pour 69 = .ok (.aload_n 0, 1) := by decide +kernel
theorem dX12_pour_70 : decode cX12_pour 70 = .ok (.iload 4, 2) := by decide +kernel
theorem dX12_pour_72 : decode cX12_pour 72 = .ok (.invokevirtual 105, 3) := by decide +kernel
theorem dX12_pour_75 : decode cX12_pour 75 = .ok (.ifCond .eq 8, 3) := by decide +kernel
theorem dX12_pour_78 : decode cX12_pour 78 = .ok (.iload 4, 2) := by decide +kernel
theorem dX12_pour_80 : decode cX12_pour 80 = .ok (.goto 4, 3) := by decide +kernel
theorem dX12_pour_83 : decode cX12_pour 83 = .ok (.iconst (-1), 1) := by decide +kernel
theorem dX12_pour_84 : decode cX12_pour 84 = .ok (.istore 5, 2) := by decide +kernel
theorem dX12_pour_86 : decode cX12_pour 86 = .ok (.iload_n 2, 1) := by decide +kernel
theorem dX12_pour_87 : decode cX12_pour 87 = .ok (.aload_n 0, 1) := by decide +kernel
theorem dX12_pour_88 : decode cX12_pour 88 = .ok (.bipush 38, 2) := by decide +kernel
theorem dX12_pour_90 : decode cX12_pour 90 = .ok (.iconst 5, 1) := by decide +kernel
theorem dX12_pour_91 : decode cX12_pour 91 = .ok (.iload_n 3, 1) := by decide +kernel
theorem dX12_pour_92 : decode cX12_pour 92 = .ok (.iconst 2, 1) := by decide +kernel
theorem dX12_pour_93 : decode cX12_pour 93 = .ok (.idiv, 1) := by decide +kernel
theorem dX12_pour_94 : decode cX12_pour 94 = .ok (.imul, 1) := by decide +kernel
theorem dX12_pour_95 : decode cX12_pour 95 = .ok (.iadd, 1) := by decide +kernel
theorem dX12_pour_96 : decode cX12_pour 96 = .ok (.iconst 3, 1) := by decide +kernel
theorem dX12_pour_97 : decode cX12_pour 97 = .ok (.iadd, 1) := by decide +kernel
theorem dX12_pour_98 : decode cX12_pour 98 = .ok (.iload_n 3, 1) := by decide +kernel
theorem dX12_pour_99 : decode cX12_pour 99 = .ok (.iconst 2, 1) := by decide +kernel
theorem dX12_pour_100 : decode cX12_pour 100 = .ok (.irem, 1) := by decide +kernel
theorem dX12_pour_101 : decode cX12_pour 101 = .ok (.iadd, 1) := by decide +kernel
theorem dX12_pour_102 : decode cX12_pour 102 = .ok (.iload 5, 2) := by decide +kernel
theorem dX12_pour_104 : decode cX12_pour 104 = .ok (.invokevirtual 112, 3) := by decide +kernel
theorem dX12_pour_107 : decode cX12_pour 107 = .ok (.iload 5, 2) := by decide +kernel
theorem dX12_pour_109 : decode cX12_pour 109 = .ok (.if_icmp .ne 7, 3) := by decide +kernel
theorem dX12_pour_112 : decode cX12_pour 112 = .ok (.iconst 0, 1) := by decide +kernel
theorem dX12_pour_113 : decode cX12_pour 113 = .ok (.goto 4, 3) := by decide +kernel
theorem dX12_pour_116 : decode cX12_pour 116 = .ok (.iconst 1, 1) := by decide +kernel
theorem dX12_pour_117 : decode cX12_pour 117 = .ok (.iadd, 1) := by decide +kernel
theorem dX12_pour_118 : decode cX12_pour 118 = .ok (.istore_n 2, 1) := by decide +kernel
theorem dX12_pour_119 : decode cX12_pour 119 = .ok (.iinc 3 1, 3) := by decide +kernel
theorem dX12_pour_122 : decode cX12_pour 122 = .ok (.goto (-95), 3) := by decide +kernel
theorem dX12_pour_125 : decode cX12_pour 125 = .ok (.iload_n 2, 1) := by decide +kernel
theorem dX12_pour_126 : decode cX12_pour 126 = .ok (.ireturn, 1) := by decide +kernel
theorem dX12_reads_0 : decode cX12_reads 0 = .ok (.iload_n 1, 1) := by decide +kernel
theorem dX12_reads_1 : decode cX12_reads 1 = .ok (.invokestatic 258, 3) := by decide +kernel
theorem dX12_reads_4 : decode cX12_reads 4 = .ok (.ifCond .ne 6, 3) := by decide +kernel
theorem dX12_reads_7 : decode cX12_reads 7 = .ok (.ldc 78, 2) := by decide +kernel
theorem dX12_reads_9 : decode cX12_reads 9 = .ok (.ireturn, 1) := by decide +kernel
theorem dX12_reads_10 : decode cX12_reads 10 = .ok (.aload_n 0, 1) := by decide +kernel
theorem dX12_reads_11 : decode cX12_reads 11 = .ok (.getfield 45, 3) := by decide +kernel
theorem dX12_reads_14 : decode cX12_reads 14 = .ok (.iload_n 1, 1) := by decide +kernel
theorem dX12_reads_15 : decode cX12_reads 15 = .ok (.iaload, 1) := by decide +kernel
theorem dX12_reads_16 : decode cX12_reads 16 = .ok (.ifCond .ge 7, 3) := by decide +kernel
theorem dX12_reads_19 : decode cX12_reads 19 = .ok (.ldc_w 262, 3) := by decide +kernel
theorem dX12_reads_22 : decode cX12_reads 22 = .ok (.ireturn, 1) := by decide +kernel
theorem dX12_reads_23 : decode cX12_reads 23 = .ok (.iconst 0, 1) := by decide +kernel
theorem dX12_reads_24 : decode cX12_reads 24 = .ok (.istore_n 2, 1) := by decide +kernel
theorem dX12_reads_25 : decode cX12_reads 25 = .ok (.iload_n 2, 1) := by decide +kernel
theorem dX12_reads_26 : decode cX12_reads 26 = .ok (.aload_n 0, 1) := by decide +kernel
theorem dX12_reads_27 : decode cX12_reads 27 = .ok (.getfield 48, 3) := by decide +kernel
theorem dX12_reads_30 : decode cX12_reads 30 = .ok (.iload_n 1, 1) := by decide +kernel
theorem dX12_reads_31 : decode cX12_reads 31 = .ok (.iaload, 1) := by decide +kernel
theorem dX12_reads_32 : decode cX12_reads 32 = .ok (.if_icmp .ge 48, 3) := by decide +kernel
theorem dX12_reads_35 : decode cX12_reads 35 = .ok (.aload_n 0, 1) := by decide +kernel
theorem dX12_reads_36 : decode cX12_reads 36 = .ok (.getfield 51, 3) := by decide +kernel
theorem dX12_reads_39 : decode cX12_reads 39 = .ok (.bipush 24, 2) := by decide +kernel
theorem dX12_reads_41 : decode cX12_reads 41 = .ok (.iload_n 1, 1) := by decide +kernel
theorem dX12_reads_42 : decode cX12_reads 42 = .ok (.imul, 1) := by decide +kernel
theorem dX12_reads_43 : decode cX12_reads 43 = .ok (.iload_n 2, 1) := by decide +kernel
theorem dX12_reads_44 : decode cX12_reads 44 = .ok (.iadd, 1) := by decide +kernel
theorem dX12_reads_45 : decode cX12_reads 45 = .ok (.iaload, 1) := by decide +kernel
theorem dX12_reads_46 : decode cX12_reads 46 = .ok (.istore_n 3, 1) := by decide +kernel
theorem dX12_reads_47 : decode cX12_reads 47 = .ok (.iload_n 3, 1) := by decide +kernel
theorem dX12_reads_48 : decode cX12_reads 48 = .ok (.ldc 72, 2) := by decide +kernel
theorem dX12_reads_50 : decode cX12_reads 50 = .ok (.if_icmp .eq 24, 3) := by decide +kernel
theorem dX12_reads_53 : decode cX12_reads 53 = .ok (.aload_n 0, 1) := by decide +kernel
theorem dX12_reads_54 : decode cX12_reads 54 = .ok (.iload_n 2, 1) := by decide +kernel
theorem dX12_reads_55 : decode cX12_reads 55 = .ok (.invokevirtual 105, 3) := by decide +kernel
theorem dX12_reads_58 : decode cX12_reads 58 = .ok (.ifCond .eq 14, 3) := by decide +kernel
theorem dX12_reads_61 : decode cX12_reads 61 = .ok (.iload_n 3, 1) := by decide +kernel
theorem dX12_reads_62 : decode cX12_reads 62 = .ok (.aload_n 0, 1) := by decide +kernel
theorem dX12_reads_63 : decode cX12_reads 63 = .ok (.iload_n 2, 1) := by decide +kernel
theorem dX12_reads_64 : decode cX12_reads 64 = .ok (.iconst (-1), 1) := by decide +kernel
theorem dX12_reads_65 : decode cX12_reads 65 = .ok (.iconst 0, 1) := by decide +kernel
theorem dX12_reads_66 : decode cX12_reads 66 = .ok (.invokevirtual 87, 3) := by decide +kernel
theorem dX12_reads_69 : decode cX12_reads 69 = .ok (.if_icmp .eq 5, 3) := by decide +kernel
theorem dX12_reads_72 : decode cX12_reads 72 = .ok (.iload_n 2, 1) := by decide +kernel
theorem dX12_reads_73 : decode cX12_reads 73 = .ok (.ireturn, 1) := by decide +kernel
theorem dX12_reads_74 : decode cX12_reads 74 = .ok (.iinc 2 1, 3) := by decide +kernel
theorem dX12_reads_77 : decode cX12_reads 77 = .ok (.goto (-52), 3) := by decide +kernel
theorem dX12_reads_80 : decode cX12_reads 80 = .ok (.ldc 72, 2) := by decide +kernel
theorem dX12_reads_82 : decode cX12_reads 82 = .ok (.ireturn, 1) := by decide +kernel
theorem dX12_copy_0 : decode cX12_copy 0 = .ok (.iload_n 1, 1) := by decide +kernel
theorem dX12_copy_1 : decode cX12_copy 1 = .ok (.invokestatic 258, 3) := by decide +kernel
theorem dX12_copy_4 : decode cX12_copy 4 = .ok (.ifCond .eq 10, 3) := by decide +kernel
theorem dX12_copy_7 : decode cX12_copy 7 = .ok (.iload_n 3, 1) := by decide +kernel
theorem dX12_copy_8 : decode cX12_copy 8 = .ok (.invokestatic 258, 3) := by decide +kernel
theorem dX12_copy_11 : decode cX12_copy 11 = .ok (.ifCond .ne 6, 3) := by decide +kernel
theorem dX12_copy_14 : decode cX12_copy 14 = .ok (.ldc 78, 2) := by decide +kernel
theorem dX12_copy_16 : decode cX12_copy 16 = .ok (.ireturn, 1) := by decide +kernel
theorem dX12_copy_17 : decode cX12_copy 17 = .ok (.aload_n 0, 1) := by decide +kernel
theorem dX12_copy_18 : decode cX12_copy 18 = .ok (.getfield 45, 3) := by decide +kernel
theorem dX12_copy_21 : decode cX12_copy 21 = .ok (.iload_n 1, 1) := by decide +kernel
theorem dX12_copy_22 : decode cX12_copy 22 = .ok (.iaload, 1) := by decide +kernel
theorem dX12_copy_23 : decode cX12_copy 23 = .ok (.ifCond .lt 12, 3) := by decide +kernel
theorem dX12_copy_26 : decode cX12_copy 26 = .ok (.aload_n 0, 1) := by decide +kernel
theorem dX12_copy_27 : decode cX12_copy 27 = .ok (.getfield 45, 3) := by decide +kernel
theorem dX12_copy_30 : decode cX12_copy 30 = .ok (.iload_n 3, 1) := by decide +kernel
theorem dX12_copy_31 : decode cX12_copy 31 = .ok (.iaload, 1) := by decide +kernel
theorem dX12_copy_32 : decode cX12_copy 32 = .ok (.ifCond .ge 7, 3) := by decide +kernel
theorem dX12_copy_35 : decode cX12_copy 35 = .ok (.ldc_w 262, 3) := by decide +kernel
theorem dX12_copy_38 : decode cX12_copy 38 = .ok (.ireturn, 1) := by decide +kernel
theorem dX12_copy_39 : decode cX12_copy 39 = .ok (.aload_n 0, 1) := by decide +kernel
theorem dX12_copy_40 : decode cX12_copy 40 = .ok (.getfield 45, 3) := by decide +kernel
theorem dX12_copy_43 : decode cX12_copy 43 = .ok (.iload_n 1, 1) := by decide +kernel
theorem dX12_copy_44 : decode cX12_copy 44 = .ok (.iaload, 1) := by decide +kernel
theorem dX12_copy_45 : decode cX12_copy 45 = .ok (.aload_n 0, 1) := by decide +kernel
theorem dX12_copy_46 : decode cX12_copy 46 = .ok (.getfield 45, 3) := by decide +kernel
theorem dX12_copy_49 : decode cX12_copy 49 = .ok (.iload_n 3, 1) := by decide +kernel
theorem dX12_copy_50 : decode cX12_copy 50 = .ok (.iaload, 1) := by decide +kernel
theorem dX12_copy_51 : decode cX12_copy 51 = .ok (.if_icmp .eq 6, 3) := by decide +kernel
theorem dX12_copy_54 : decode cX12_copy 54 = .ok (.ldc 150, 2) := by decide +kernel
theorem dX12_copy_56 : decode cX12_copy 56 = .ok (.ireturn, 1) := by decide +kernel
theorem dX12_copy_57 : decode cX12_copy 57 = .ok (.iload_n 2, 1) := by decide +kernel
theorem dX12_copy_58 : decode cX12_copy 58 = .ok (.ifCond .lt 40, 3) := by decide +kernel
theorem dX12_copy_61 : decode cX12_copy 61 = .ok (.iload 4, 2) := by decide +kernel
theorem dX12_copy_63 : decode cX12_copy 63 = .ok (.ifCond .lt 35, 3) := by decide +kernel
theorem dX12_copy_66 : decode cX12_copy 66 = .ok (.iload 5, 2) := by decide +kernel
theorem dX12_copy_68 : decode cX12_copy 68 = .ok (.ifCond .lt 30, 3) := by decide +kernel
theorem dX12_copy_71 : decode cX12_copy 71 = .ok (.iload_n 2, 1) := by decide +kernel
theorem dX12_copy_72 : decode cX12_copy 72 = .ok (.aload_n 0, 1) := by decide +kernel
theorem dX12_copy_73 : decode cX12_copy 73 = .ok (.getfield 48, 3) := by decide +kernel
theorem dX12_copy_76 : decode cX12_copy 76 = .ok (.iload_n 1, 1) := by decide +kernel
theorem dX12_copy_77 : decode cX12_copy 77 = .ok (.iaload, 1) := by decide +kernel
theorem dX12_copy_78 : decode cX12_copy 78 = .ok (.iload 5, 2) := by decide +kernel
theorem dX12_copy_80 : decode cX12_copy 80 = .ok (.isub, 1) := by decide +kernel
theorem dX12_copy_81 : decode cX12_copy 81 = .ok (.if_icmp .gt 17, 3) := by decide +kernel
theorem dX12_copy_84 : decode cX12_copy 84 = .ok (.iload 4, 2) := by decide +kernel
theorem dX12_copy_86 : decode cX12_copy 86 = .ok (.aload_n 0, 1) := by decide +kernel
theorem dX12_copy_87 : decode cX12_copy 87 = .ok (.getfield 48, 3) := by decide +kernel
theorem dX12_copy_90 : decode cX12_copy 90 = .ok (.iload_n 3, 1) := by decide +kernel
theorem dX12_copy_91 : decode cX12_copy 91 = .ok (.iaload, 1) := by decide +kernel
theorem dX12_copy_92 : decode cX12_copy 92 = .ok (.iload 5, 2) := by decide +kernel
theorem dX12_copy_94 : decode cX12_copy 94 = .ok (.isub, 1) := by decide +kernel
theorem dX12_copy_95 : decode cX12_copy 95 = .ok (.if_icmp .le 7, 3) := by decide +kernel
theorem dX12_copy_98 : decode cX12_copy 98 = .ok (.ldc_w 263, 3) := by decide +kernel
theorem dX12_copy_101 : decode cX12_copy 101 = .ok (.ireturn, 1) := by decide +kernel
theorem dX12_copy_102 : decode cX12_copy 102 = .ok (.iconst 0, 1) := by decide +kernel
theorem dX12_copy_103 : decode cX12_copy 103 = .ok (.istore 6, 2) := by decide +kernel
theorem dX12_copy_105 : decode cX12_copy 105 = .ok (.iload 6, 2) := by decide +kernel
theorem dX12_copy_107 : decode cX12_copy 107 = .ok (.iload 5, 2) := by decide +kernel
theorem dX12_copy_109 : decode cX12_copy 109 = .ok (.if_icmp .ge 30, 3) := by decide +kernel
theorem dX12_copy_112 : decode cX12_copy 112 = .ok (.aload_n 0, 1) := by decide +kernel
theorem dX12_copy_113 : decode cX12_copy 113 = .ok (.getfield 66, 3) := by decide +kernel
theorem dX12_copy_116 : decode cX12_copy 116 = .ok (.iload 6, 2) := by decide +kernel
theorem dX12_copy_118 : decode cX12_copy 118 = .ok (.aload_n 0, 1) := by decide +kernel
theorem dX12_copy_119 : decode cX12_copy 119 = .ok (.getfield 51, 3) := by decide +kernel
theorem dX12_copy_122 : decode cX12_copy 122 = .ok (.bipush 24, 2) := by decide +kernel
theorem dX12_copy_124 : decode cX12_copy 124 = .ok (.iload_n 1, 1) := by decide +kernel
theorem dX12_copy_125 : decode cX12_copy 125 = .ok (.imul, 1) := by decide +kernel
theorem dX12_copy_126 : decode cX12_copy 126 = .ok (.iload_n 2, 1) := by decide +kernel
theorem dX12_copy_127 : decode cX12_copy 127 = .ok (.iadd, 1) := by decide +kernel
theorem dX12_copy_128 : decode cX12_copy 128 = .ok (.iload 6, 2) := by decide +kernel
theorem dX12_copy_130 : decode cX12_copy 130 = .ok (.iadd, 1) := by decide +kernel
theorem dX12_copy_131 : decode cX12_copy 131 = .ok (.iaload, 1) := by decide +kernel
theorem dX12_copy_132 : decode cX12_copy 132 = .ok (.iastore, 1) := by decide +kernel
theorem dX12_copy_133 : decode cX12_copy 133 = .ok (.iinc 6 1, 3) := by decide +kernel
theorem dX12_copy_136 : decode cX12_copy 136 = .ok (.goto (-31), 3) := by decide +kernel
theorem dX12_copy_139 : decode cX12_copy 139 = .ok (.iconst 0, 1) := by decide +kernel
theorem dX12_copy_140 : decode cX12_copy 140 = .ok (.istore 6, 2) := by decide +kernel
theorem dX12_copy_142 : decode cX12_copy 142 = .ok (.iload 6, 2) := by decide +kernel
theorem dX12_copy_144 : decode cX12_copy 144 = .ok (.iload 5, 2) := by decide +kernel
theorem dX12_copy_146 : decode cX12_copy 146 = .ok (.if_icmp .ge 31, 3) := by decide +kernel
theorem dX12_copy_149 : decode cX12_copy 149 = .ok (.aload_n 0, 1) := by decide +kernel
theorem dX12_copy_150 : decode cX12_copy 150 = .ok (.getfield 51, 3) := by decide +kernel
theorem dX12_copy_153 : decode cX12_copy 153 = .ok (.bipush 24, 2) := by decide +kernel
theorem dX12_copy_155 : decode cX12_copy 155 = .ok (.iload_n 3, 1) := by decide +kernel
theorem dX12_copy_156 : decode cX12_copy 156 = .ok (.imul, 1) := by decide +kernel
theorem dX12_copy_157 : decode cX12_copy 157 = .ok (.iload 4, 2) := by decide +kernel
theorem dX12_copy_159 : decode cX12_copy 159 = .ok (.iadd, 1) := by decide +kernel
theorem dX12_copy_160 : decode cX12_copy 160 = .ok (.iload 6, 2) := by decide +kernel
theorem dX12_copy_162 : decode cX12_copy 162 = .ok (.iadd, 1) := by decide +kernel
theorem dX12_copy_163 : decode cX12_copy 163 = .ok (.aload_n 0, 1) := by decide +kernel
theorem dX12_copy_164 : decode cX12_copy 164 = .ok (.getfield 66, 3) := by decide +kernel
theorem dX12_copy_167 : decode cX12_copy 167 = .ok (.iload 6, 2) := by decide +kernel
theorem dX12_copy_169 : decode cX12_copy 169 = .ok (.iaload, 1) := by decide +kernel
theorem dX12_copy_170 : decode cX12_copy 170 = .ok (.iastore, 1) := by decide +kernel
theorem dX12_copy_171 : decode cX12_copy 171 = .ok (.iinc 6 1, 3) := by decide +kernel
theorem dX12_copy_174 : decode cX12_copy 174 = .ok (.goto (-32), 3) := by decide +kernel
theorem dX12_copy_177 : decode cX12_copy 177 = .ok (.iload 5, 2) := by decide +kernel
theorem dX12_copy_179 : decode cX12_copy 179 = .ok (.ireturn, 1) := by decide +kernel
theorem dX12_lay_0 : decode cX12_lay 0 = .ok (.iload_n 1, 1) := by decide +kernel
theorem dX12_lay_1 : decode cX12_lay 1 = .ok (.invokestatic 265, 3) := by decide +kernel
theorem dX12_lay_4 : decode cX12_lay 4 = .ok (.ifCond .eq 37, 3) := by decide +kernel
theorem dX12_lay_7 : decode cX12_lay 7 = .ok (.iload_n 2, 1) := by decide +kernel
theorem dX12_lay_8 : decode cX12_lay 8 = .ok (.iconst 0, 1) := by decide +kernel
theorem dX12_lay_9 : decode cX12_lay 9 = .ok (.iconst 3, 1) := by decide +kernel
theorem dX12_lay_10 : decode cX12_lay 10 = .ok (.invokestatic 73, 3) := by decide +kernel
theorem dX12_lay_13 : decode cX12_lay 13 = .ok (.ifCond .eq 28, 3) := by decide +kernel
theorem dX12_lay_16 : decode cX12_lay 16 = .ok (.iload_n 2, 1) := by decide +kernel
theorem dX12_lay_17 : decode cX12_lay 17 = .ok (.iconst 1, 1) := by decide +kernel
theorem dX12_lay_18 : decode cX12_lay 18 = .ok (.if_icmp .ne 11, 3) := by decide +kernel
theorem dX12_lay_21 : decode cX12_lay 21 = .ok (.aload_n 0, 1) := by decide +kernel
theorem dX12_lay_22 : decode cX12_lay 22 = .ok (.iload_n 3, 1) := by decide +kernel
theorem dX12_lay_23 : decode cX12_lay 23 = .ok (.invokevirtual 141, 3) := by decide +kernel
theorem dX12_lay_26 : decode cX12_lay 26 = .ok (.ifCond .eq 15, 3) := by decide +kernel
theorem dX12_lay_29 : decode cX12_lay 29 = .ok (.iload_n 2, 1) := by decide +kernel
theorem dX12_lay_30 : decode cX12_lay 30 = .ok (.iconst 2, 1) := by decide +kernel
theorem dX12_lay_31 : decode cX12_lay 31 = .ok (.if_icmp .ne 13, 3) := by decide +kernel
theorem dX12_lay_34 : decode cX12_lay 34 = .ok (.iload_n 3, 1) := by decide +kernel
theorem dX12_lay_35 : decode cX12_lay 35 = .ok (.invokestatic 258, 3) := by decide +kernel
theorem dX12_lay_38 : decode cX12_lay 38 = .ok (.ifCond .ne 6, 3) := by decide +kernel
theorem dX12_lay_41 : decode cX12_lay 41 = .ok (.ldc 78, 2) := by decide +kernel
theorem dX12_lay_43 : decode cX12_lay 43 = .ok (.ireturn, 1) := by decide +kernel
theorem dX12_lay_44 : decode cX12_lay 44 = .ok (.iload_n 2, 1) := by decide +kernel
theorem dX12_lay_45 : decode cX12_lay 45 = .ok (.iconst 2, 1) := by decide +kernel
theorem dX12_lay_46 : decode cX12_lay 46 = .ok (.if_icmp .ne 16, 3) := by decide +kernel
theorem dX12_lay_49 : decode cX12_lay 49 = .ok (.aload_n 0, 1) := by decide +kernel
theorem dX12_lay_50 : decode cX12_lay 50 = .ok (.getfield 45, 3) := by decide +kernel
theorem dX12_lay_53 : decode cX12_lay 53 = .ok (.iload_n 3, 1) := by decide +kernel
theorem dX12_lay_54 : decode cX12_lay 54 = .ok (.iaload, 1) := by decide +kernel
theorem dX12_lay_55 : decode cX12_lay 55 = .ok (.ifCond .ge 7, 3) := by decide +kernel
theorem dX12_lay_58 : decode cX12_lay 58 = .ok (.ldc_w 262, 3) := by decide +kernel
theorem dX12_lay_61 : decode cX12_lay 61 = .ok (.ireturn, 1) := by decide +kernel
theorem dX12_lay_62 : decode cX12_lay 62 = .ok (.aload_n 0, 1) := by decide +kernel
theorem dX12_lay_63 : decode cX12_lay 63 = .ok (.getfield 54, 3) := by decide +kernel
theorem dX12_lay_66 : decode cX12_lay 66 = .ok (.iload_n 1, 1) := by decide +kernel
theorem dX12_lay_67 : decode cX12_lay 67 = .ok (.iaload, 1) := by decide +kernel
theorem dX12_lay_68 : decode cX12_lay 68 = .ok (.istore 4, 2) := by decide +kernel
theorem dX12_lay_70 : decode cX12_lay 70 = .ok (.aload_n 0, 1) := by decide +kernel
theorem dX12_lay_71 : decode cX12_lay 71 = .ok (.getfield 54, 3) := by decide +kernel
theorem dX12_lay_74 : decode cX12_lay 74 = .ok (.iload_n 1, 1) := by decide +kernel
theorem dX12_lay_75 : decode cX12_lay 75 = .ok (.iload_n 2, 1) := by decide +kernel
theorem dX12_lay_76 : decode cX12_lay 76 = .ok (.iastore, 1) := by decide +kernel
theorem dX12_lay_77 : decode cX12_lay 77 = .ok (.aload_n 0, 1) := by decide +kernel
theorem dX12_lay_78 : decode cX12_lay 78 = .ok (.getfield 57, 3) := by decide +kernel
theorem dX12_lay_81 : decode cX12_lay 81 = .ok (.iload_n 1, 1) := by decide +kernel
theorem dX12_lay_82 : decode cX12_lay 82 = .ok (.iload_n 2, 1) := by decide +kernel
theorem dX12_lay_83 : decode cX12_lay 83 = .ok (.iconst 1, 1) := by decide +kernel
theorem dX12_lay_84 : decode cX12_lay 84 = .ok (.if_icmp .ne 11, 3) := by decide +kernel
theorem dX12_lay_87 : decode cX12_lay 87 = .ok (.aload_n 0, 1) := by decide +kernel
theorem dX12_lay_88 : decode cX12_lay 88 = .ok (.iload_n 3, 1) := by decide +kernel
theorem dX12_lay_89 : decode cX12_lay 89 = .ok (.invokevirtual 138, 3) := by decide +kernel
theorem dX12_lay_92 : decode cX12_lay 92 = .ok (.goto 18, 3) := by decide +kernel
theorem dX12_lay_95 : decode cX12_lay 95 = .ok (.iload_n 2, 1) := by decide +kernel
theorem dX12_lay_96 : decode cX12_lay 96 = .ok (.iconst 2, 1) := by decide +kernel
theorem dX12_lay_97 : decode cX12_lay 97 = .ok (.if_icmp .ne 12, 3) := by decide +kernel
theorem dX12_lay_100 : decode cX12_lay 100 = .ok (.aload_n 0, 1) := by decide +kernel
theorem dX12_lay_101 : decode cX12_lay 101 = .ok (.getfield 48, 3) := by decide +kernel
theorem dX12_lay_104 : decode cX12_lay 104 = .ok (.iload_n 3, 1) := by decide +kernel
theorem dX12_lay_105 : decode cX12_lay 105 = .ok (.iaload, 1) := by decide +kernel
theorem dX12_lay_106 : decode cX12_lay 106 = .ok (.goto 4, 3) := by decide +kernel
theorem dX12_lay_109 : decode cX12_lay 109 = .ok (.iload_n 3, 1) := by decide +kernel
theorem dX12_lay_110 : decode cX12_lay 110 = .ok (.iastore, 1) := by decide +kernel
theorem dX12_lay_111 : decode cX12_lay 111 = .ok (.aload_n 0, 1) := by decide +kernel
theorem dX12_lay_112 : decode cX12_lay 112 = .ok (.getfield 60, 3) := by decide +kernel
theorem dX12_lay_115 : decode cX12_lay 115 = .ok (.iload_n 1, 1) := by decide +kernel
theorem dX12_lay_116 : decode cX12_lay 116 = .ok (.iload_n 2, 1) := by decide +kernel
theorem dX12_lay_117 : decode cX12_lay 117 = .ok (.iconst 1, 1) := by decide +kernel
theorem dX12_lay_118 : decode cX12_lay 118 = .ok (.if_icmp .ne 11, 3) := by decide +kernel
theorem dX12_lay_121 : decode cX12_lay 121 = .ok (.aload_n 0, 1) := by decide +kernel
theorem dX12_lay_122 : decode cX12_lay 122 = .ok (.iload_n 3, 1) := by decide +kernel
theorem dX12_lay_123 : decode cX12_lay 123 = .ok (.invokevirtual 144, 3) := by decide +kernel
theorem dX12_lay_126 : decode cX12_lay 126 = .ok (.goto 4, 3) := by decide +kernel
theorem dX12_lay_129 : decode cX12_lay 129 = .ok (.iconst 0, 1) := by decide +kernel
theorem dX12_lay_130 : decode cX12_lay 130 = .ok (.iastore, 1) := by decide +kernel
theorem dX12_lay_131 : decode cX12_lay 131 = .ok (.iconst 0, 1) := by decide +kernel
theorem dX12_lay_132 : decode cX12_lay 132 = .ok (.istore 5, 2) := by decide +kernel
theorem dX12_lay_134 : decode cX12_lay 134 = .ok (.iload 5, 2) := by decide +kernel
theorem dX12_lay_136 : decode cX12_lay 136 = .ok (.bipush 24, 2) := by decide +kernel
theorem dX12_lay_138 : decode cX12_lay 138 = .ok (.if_icmp .ge 38, 3) := by decide +kernel
theorem dX12_lay_141 : decode cX12_lay 141 = .ok (.iload_n 2, 1) := by decide +kernel
theorem dX12_lay_142 : decode cX12_lay 142 = .ok (.iconst 2, 1) := by decide +kernel
theorem dX12_lay_143 : decode cX12_lay 143 = .ok (.if_icmp .ne 33, 3) := by decide +kernel
theorem dX12_lay_146 : decode cX12_lay 146 = .ok (.aload_n 0, 1) := by decide +kernel
theorem dX12_lay_147 : decode cX12_lay 147 = .ok (.getfield 63, 3) := by decide +kernel
theorem dX12_lay_150 : decode cX12_lay 150 = .ok (.bipush 24, 2) := by decide +kernel
theorem dX12_lay_152 : decode cX12_lay 152 = .ok (.iload_n 1, 1) := by decide +kernel
theorem dX12_lay_153 : decode cX12_lay 153 = .ok (.imul, 1) := by decide +kernel
theorem dX12_lay_154 : decode cX12_lay 154 = .ok (.iload 5, 2) := by decide +kernel
theorem dX12_lay_156 : decode cX12_lay 156 = .ok (.iadd, 1) := by decide +kernel
theorem dX12_lay_157 : decode cX12_lay 157 = .ok (.aload_n 0, 1) := by decide +kernel
theorem dX12_lay_158 : decode cX12_lay 158 = .ok (.getfield 51, 3) := by decide +kernel
theorem dX12_lay_161 : decode cX12_lay 161 = .ok (.bipush 24, 2) := by decide +kernel
theorem dX12_lay_163 : decode cX12_lay 163 = .ok (.iload_n 3, 1) := by decide +kernel
theorem dX12_lay_164 : decode cX12_lay 164 = .ok (.imul, 1) := by decide +kernel
theorem dX12_lay_165 : decode cX12_lay 165 = .ok (.iload 5, 2) := by decide +kernel
theorem dX12_lay_167 : decode cX12_lay 167 = .ok (.iadd, 1) := by decide +kernel
theorem dX12_lay_168 : decode cX12_lay 168 = .ok (.iaload, 1) := by decide +kernel
theorem dX12_lay_169 : decode cX12_lay 169 = .ok (.iastore, 1) := by decide +kernel
theorem dX12_lay_170 : decode cX12_lay 170 = .ok (.iinc 5 1, 3) := by decide +kernel
theorem dX12_lay_173 : decode cX12_lay 173 = .ok (.goto (-39), 3) := by decide +kernel
theorem dX12_lay_176 : decode cX12_lay 176 = .ok (.iload 4, 2) := by decide +kernel
theorem dX12_lay_178 : decode cX12_lay 178 = .ok (.ireturn, 1) := by decide +kernel
theorem dX12_ask_0 : decode cX12_ask 0 = .ok (.iload_n 1, 1) := by decide +kernel
theorem dX12_ask_1 : decode cX12_ask 1 = .ok (.invokestatic 265, 3) := by decide +kernel
theorem dX12_ask_4 : decode cX12_ask 4 = .ok (.ifCond .eq 12, 3) := by decide +kernel
theorem dX12_ask_7 : decode cX12_ask 7 = .ok (.iload_n 2, 1) := by decide +kernel
theorem dX12_ask_8 : decode cX12_ask 8 = .ok (.iconst 0, 1) := by decide +kernel
theorem dX12_ask_9 : decode cX12_ask 9 = .ok (.iconst 5, 1) := by decide +kernel
theorem dX12_ask_10 : decode cX12_ask 10 = .ok (.invokestatic 73, 3) := by decide +kernel
theorem dX12_ask_13 : decode cX12_ask 13 = .ok (.ifCond .ne 6, 3) := by decide +kernel
theorem dX12_ask_16 : decode cX12_ask 16 = .ok (.ldc 78, 2) := by decide +kernel
theorem dX12_ask_18 : decode cX12_ask 18 = .ok (.ireturn, 1) := by decide +kernel
theorem dX12_ask_19 : decode cX12_ask 19 = .ok (.aload_n 0, 1) := by decide +kernel
theorem dX12_ask_20 : decode cX12_ask 20 = .ok (.getfield 54, 3) := by decide +kernel
theorem dX12_ask_23 : decode cX12_ask 23 = .ok (.iload_n 1, 1) := by decide +kernel
theorem dX12_ask_24 : decode cX12_ask 24 = .ok (.iaload, 1) := by decide +kernel
theorem dX12_ask_25 : decode cX12_ask 25 = .ok (.ifCond .ne 7, 3) := by decide +kernel
theorem dX12_ask_28 : decode cX12_ask 28 = .ok (.ldc_w 262, 3) := by decide +kernel
theorem dX12_ask_31 : decode cX12_ask 31 = .ok (.ireturn, 1) := by decide +kernel
theorem dX12_ask_32 : decode cX12_ask 32 = .ok (.aload_n 0, 1) := by decide +kernel
theorem dX12_ask_33 : decode cX12_ask 33 = .ok (.getfield 54, 3) := by decide +kernel
theorem dX12_ask_36 : decode cX12_ask 36 = .ok (.iload_n 1, 1) := by decide +kernel
theorem dX12_ask_37 : decode cX12_ask 37 = .ok (.iaload, 1) := by decide +kernel
theorem dX12_ask_38 : decode cX12_ask 38 = .ok (.iconst 1, 1) := by decide +kernel
theorem dX12_ask_39 : decode cX12_ask 39 = .ok (.if_icmp .ne 25, 3) := by decide +kernel
theorem dX12_ask_42 : decode cX12_ask 42 = .ok (.aload_n 0, 1) := by decide +kernel
theorem dX12_ask_43 : decode cX12_ask 43 = .ok (.getfield 57, 3) := by decide +kernel
theorem dX12_ask_46 : decode cX12_ask 46 = .ok (.iload_n 1, 1) := by decide +kernel
theorem dX12_ask_47 : decode cX12_ask 47 = .ok (.iaload, 1) := by decide +kernel
theorem dX12_ask_48 : decode cX12_ask 48 = .ok (.iload_n 2, 1) := by decide +kernel
theorem dX12_ask_49 : decode cX12_ask 49 = .ok (.invokestatic 147, 3) := by decide +kernel
theorem dX12_ask_52 : decode cX12_ask 52 = .ok (.ifCond .eq 12, 3) := by decide +kernel
theorem dX12_ask_55 : decode cX12_ask 55 = .ok (.aload_n 0, 1) := by decide +kernel
theorem dX12_ask_56 : decode cX12_ask 56 = .ok (.getfield 60, 3) := by decide +kernel
theorem dX12_ask_59 : decode cX12_ask 59 = .ok (.iload_n 1, 1) := by decide +kernel
theorem dX12_ask_60 : decode cX12_ask 60 = .ok (.iaload, 1) := by decide +kernel
theorem dX12_ask_61 : decode cX12_ask 61 = .ok (.goto 5, 3) := by decide +kernel
theorem dX12_ask_64 : decode cX12_ask 64 = .ok (.ldc 150, 2) := by decide +kernel
theorem dX12_ask_66 : decode cX12_ask 66 = .ok (.ireturn, 1) := by decide +kernel
theorem dX12_item_0 : decode cX12_item 0 = .ok (.iload_n 1, 1) := by decide +kernel
theorem dX12_item_1 : decode cX12_item 1 = .ok (.invokestatic 265, 3) := by decide +kernel
theorem dX12_item_4 : decode cX12_item 4 = .ok (.ifCond .ne 6, 3) := by decide +kernel
theorem dX12_item_7 : decode cX12_item 7 = .ok (.ldc 78, 2) := by decide +kernel
theorem dX12_item_9 : decode cX12_item 9 = .ok (.ireturn, 1) := by decide +kernel
theorem dX12_item_10 : decode cX12_item 10 = .ok (.aload_n 0, 1) := by decide +kernel
theorem dX12_item_11 : decode cX12_item 11 = .ok (.getfield 54, 3) := by decide +kernel
theorem dX12_item_14 : decode cX12_item 14 = .ok (.iload_n 1, 1) := by decide +kernel
theorem dX12_item_15 : decode cX12_item 15 = .ok (.iaload, 1) := by decide +kernel
theorem dX12_item_16 : decode cX12_item 16 = .ok (.ifCond .ne 7, 3) := by decide +kernel
theorem dX12_item_19 : decode cX12_item 19 = .ok (.ldc_w 262, 3) := by decide +kernel
theorem dX12_item_22 : decode cX12_item 22 = .ok (.ireturn, 1) := by decide +kernel
theorem dX12_item_23 : decode cX12_item 23 = .ok (.aload_n 0, 1) := by decide +kernel
theorem dX12_item_24 : decode cX12_item 24 = .ok (.getfield 54, 3) := by decide +kernel
theorem dX12_item_27 : decode cX12_item 27 = .ok (.iload_n 1, 1) := by decide +kernel
theorem dX12_item_28 : decode cX12_item 28 = .ok (.iaload, 1) := by decide +kernel
theorem dX12_item_29 : decode cX12_item 29 = .ok (.iconst 2, 1) := by decide +kernel
theorem dX12_item_30 : decode cX12_item 30 = .ok (.if_icmp .eq 6, 3) := by decide +kernel
theorem dX12_item_33 : decode cX12_item 33 = .ok (.ldc 150, 2) := by decide +kernel
theorem dX12_item_35 : decode cX12_item 35 = .ok (.ireturn, 1) := by decide +kernel
theorem dX12_item_36 : decode cX12_item 36 = .ok (.iload_n 2, 1) := by decide +kernel
theorem dX12_item_37 : decode cX12_item 37 = .ok (.iconst 0, 1) := by decide +kernel
theorem dX12_item_38 : decode cX12_item 38 = .ok (.aload_n 0, 1) := by decide +kernel
theorem dX12_item_39 : decode cX12_item 39 = .ok (.getfield 57, 3) := by decide +kernel
theorem dX12_item_42 : decode cX12_item 42 = .ok (.iload_n 1, 1) := by decide +kernel
theorem dX12_item_43 : decode cX12_item 43 = .ok (.iaload, 1) := by decide +kernel
theorem dX12_item_44 : decode cX12_item 44 = .ok (.iconst 1, 1) := by decide +kernel
theorem dX12_item_45 : decode cX12_item 45 = .ok (.isub, 1) := by decide +kernel
theorem dX12_item_46 : decode cX12_item 46 = .ok (.invokestatic 73, 3) := by decide +kernel
theorem dX12_item_49 : decode cX12_item 49 = .ok (.ifCond .ne 7, 3) := by decide +kernel
theorem dX12_item_52 : decode cX12_item 52 = .ok (.ldc_w 263, 3) := by decide +kernel
theorem dX12_item_55 : decode cX12_item 55 = .ok (.ireturn, 1) := by decide +kernel
theorem dX12_item_56 : decode cX12_item 56 = .ok (.aload_n 0, 1) := by decide +kernel
theorem dX12_item_57 : decode cX12_item 57 = .ok (.getfield 63, 3) := by decide +kernel
theorem dX12_item_60 : decode cX12_item 60 = .ok (.bipush 24, 2) := by decide +kernel
theorem dX12_item_62 : decode cX12_item 62 = .ok (.iload_n 1, 1) := by decide +kernel
theorem dX12_item_63 : decode cX12_item 63 = .ok (.imul, 1) := by decide +kernel
theorem dX12_item_64 : decode cX12_item 64 = .ok (.iload_n 2, 1) := by decide +kernel
theorem dX12_item_65 : decode cX12_item 65 = .ok (.iadd, 1) := by decide +kernel
theorem dX12_item_66 : decode cX12_item 66 = .ok (.iaload, 1) := by decide +kernel
theorem dX12_item_67 : decode cX12_item 67 = .ok (.istore_n 3, 1) := by decide +kernel
theorem dX12_item_68 : decode cX12_item 68 = .ok (.iload_n 3, 1) := by decide +kernel
theorem dX12_item_69 : decode cX12_item 69 = .ok (.ldc 72, 2) := by decide +kernel
theorem dX12_item_71 : decode cX12_item 71 = .ok (.if_icmp .ne 8, 3) := by decide +kernel
theorem dX12_item_74 : decode cX12_item 74 = .ok (.ldc 150, 2) := by decide +kernel
theorem dX12_item_76 : decode cX12_item 76 = .ok (.goto 4, 3) := by decide +kernel
theorem dX12_item_79 : decode cX12_item 79 = .ok (.iload_n 3, 1) := by decide +kernel
theorem dX12_item_80 : decode cX12_item 80 = .ok (.ireturn, 1) := by decide +kernel
theorem dX12_rest_0 : decode cX12_rest 0 = .ok (.iload_n 1, 1) := by decide +kernel
theorem dX12_rest_1 : decode cX12_rest 1 = .ok (.invokestatic 265, 3) := by decide +kernel
theorem dX12_rest_4 : decode cX12_rest 4 = .ok (.ifCond .ne 6, 3) := by decide +kernel
theorem dX12_rest_7 : decode cX12_rest 7 = .ok (.ldc 78, 2) := by decide +kernel
theorem dX12_rest_9 : decode cX12_rest 9 = .ok (.ireturn, 1) := by decide +kernel
theorem dX12_rest_10 : decode cX12_rest 10 = .ok (.aload_n 0, 1) := by decide +kernel
theorem dX12_rest_11 : decode cX12_rest 11 = .ok (.getfield 54, 3) := by decide +kernel
theorem dX12_rest_14 : decode cX12_rest 14 = .ok (.iload_n 1, 1) := by decide +kernel
theorem dX12_rest_15 : decode cX12_rest 15 = .ok (.iaload, 1) := by decide +kernel
theorem dX12_rest_16 : decode cX12_rest 16 = .ok (.ifCond .ne 7, 3) := by decide +kernel
theorem dX12_rest_19 : decode cX12_rest 19 = .ok (.ldc_w 262, 3) := by decide +kernel
theorem dX12_rest_22 : decode cX12_rest 22 = .ok (.ireturn, 1) := by decide +kernel
theorem dX12_rest_23 : decode cX12_rest 23 = .ok (.aload_n 0, 1) := by decide +kernel
theorem dX12_rest_24 : decode cX12_rest 24 = .ok (.getfield 54, 3) := by decide +kernel
theorem dX12_rest_27 : decode cX12_rest 27 = .ok (.iload_n 1, 1) := by decide +kernel
theorem dX12_rest_28 : decode cX12_rest 28 = .ok (.iaload, 1) := by decide +kernel
theorem dX12_rest_29 : decode cX12_rest 29 = .ok (.iconst 3, 1) := by decide +kernel
theorem dX12_rest_30 : decode cX12_rest 30 = .ok (.if_icmp .eq 6, 3) := by decide +kernel
theorem dX12_rest_33 : decode cX12_rest 33 = .ok (.ldc 150, 2) := by decide +kernel
theorem dX12_rest_35 : decode cX12_rest 35 = .ok (.ireturn, 1) := by decide +kernel
theorem dX12_rest_36 : decode cX12_rest 36 = .ok (.iload_n 2, 1) := by decide +kernel
theorem dX12_rest_37 : decode cX12_rest 37 = .ok (.ifCond .ne 9, 3) := by decide +kernel
theorem dX12_rest_40 : decode cX12_rest 40 = .ok (.ldc_w 268, 3) := by decide +kernel
theorem dX12_rest_43 : decode cX12_rest 43 = .ok (.goto 20, 3) := by decide +kernel
theorem dX12_rest_46 : decode cX12_rest 46 = .ok (.iload_n 2, 1) := by decide +kernel
theorem dX12_rest_47 : decode cX12_rest 47 = .ok (.iconst (-1), 1) := by decide +kernel
theorem dX12_rest_48 : decode cX12_rest 48 = .ok (.if_icmp .ne 7, 3) := by decide +kernel
theorem dX12_rest_51 : decode cX12_rest 51 = .ok (.iconst 0, 1) := by decide +kernel
theorem dX12_rest_52 : decode cX12_rest 52 = .ok (.goto 11, 3) := by decide +kernel
theorem dX12_rest_55 : decode cX12_rest 55 = .ok (.aload_n 0, 1) := by decide +kernel
theorem dX12_rest_56 : decode cX12_rest 56 = .ok (.getfield 57, 3) := by decide +kernel
theorem dX12_rest_59 : decode cX12_rest 59 = .ok (.iload_n 1, 1) := by decide +kernel
theorem dX12_rest_60 : decode cX12_rest 60 = .ok (.iaload, 1) := by decide +kernel
theorem dX12_rest_61 : decode cX12_rest 61 = .ok (.iload_n 2, 1) := by decide +kernel
theorem dX12_rest_62 : decode cX12_rest 62 = .ok (.irem, 1) := by decide +kernel
theorem dX12_rest_63 : decode cX12_rest 63 = .ok (.ireturn, 1) := by decide +kernel
theorem dX12_tell_0 : decode cX12_tell 0 = .ok (.aload_n 0, 1) := by decide +kernel
theorem dX12_tell_1 : decode cX12_tell 1 = .ok (.getfield 269, 3) := by decide +kernel
theorem dX12_tell_4 : decode cX12_tell 4 = .ok (.bipush 60, 2) := by decide +kernel
theorem dX12_tell_6 : decode cX12_tell 6 = .ok (.if_icmp .ne 6, 3) := by decide +kernel
theorem dX12_tell_9 : decode cX12_tell 9 = .ok (.ldc 79, 2) := by decide +kernel
theorem dX12_tell_11 : decode cX12_tell 11 = .ok (.ireturn, 1) := by decide +kernel
theorem dX12_tell_12 : decode cX12_tell 12 = .ok (.aload_n 0, 1) := by decide +kernel
theorem dX12_tell_13 : decode cX12_tell 13 = .ok (.getfield 69, 3) := by decide +kernel
theorem dX12_tell_16 : decode cX12_tell 16 = .ok (.aload_n 0, 1) := by decide +kernel
theorem dX12_tell_17 : decode cX12_tell 17 = .ok (.getfield 269, 3) := by decide +kernel
theorem dX12_tell_20 : decode cX12_tell 20 = .ok (.iload_n 1, 1) := by decide +kernel
theorem dX12_tell_21 : decode cX12_tell 21 = .ok (.iastore, 1) := by decide +kernel
theorem dX12_tell_22 : decode cX12_tell 22 = .ok (.aload_n 0, 1) := by decide +kernel
theorem dX12_tell_23 : decode cX12_tell 23 = .ok (.dup, 1) := by decide +kernel
theorem dX12_tell_24 : decode cX12_tell 24 = .ok (.getfield 269, 3) := by decide +kernel
theorem dX12_tell_27 : decode cX12_tell 27 = .ok (.iconst 1, 1) := by decide +kernel
theorem dX12_tell_28 : decode cX12_tell 28 = .ok (.iadd, 1) := by decide +kernel
theorem dX12_tell_29 : decode cX12_tell 29 = .ok (.putfield 269, 3) := by decide +kernel
theorem dX12_tell_32 : decode cX12_tell 32 = .ok (.aload_n 0, 1) := by decide +kernel
theorem dX12_tell_33 : decode cX12_tell 33 = .ok (.getfield 269, 3) := by decide +kernel
theorem dX12_tell_36 : decode cX12_tell 36 = .ok (.ireturn, 1) := by decide +kernel
theorem dX12_check_0 : decode cX12_check 0 = .ok (.aload_n 0, 1) := by decide +kernel
theorem dX12_check_1 : decode cX12_check 1 = .ok (.getfield 269, 3) := by decide +kernel
theorem dX12_check_4 : decode cX12_check 4 = .ok (.istore_n 2, 1) := by decide +kernel
theorem dX12_check_5 : decode cX12_check 5 = .ok (.aload_n 0, 1) := by decide +kernel
theorem dX12_check_6 : decode cX12_check 6 = .ok (.iconst 0, 1) := by decide +kernel
theorem dX12_check_7 : decode cX12_check 7 = .ok (.putfield 269, 3) := by decide +kernel
theorem dX12_check_10 : decode cX12_check 10 = .ok (.iload_n 1, 1) := by decide +kernel
theorem dX12_check_11 : decode cX12_check 11 = .ok (.iconst 1, 1) := by decide +kernel
theorem dX12_check_12 : decode cX12_check 12 = .ok (.bipush 30, 2) := by decide +kernel
theorem dX12_check_14 : decode cX12_check 14 = .ok (.invokestatic 73, 3) := by decide +kernel
theorem dX12_check_17 : decode cX12_check 17 = .ok (.ifCond .ne 6, 3) := by decide +kernel
theorem dX12_check_20 : decode cX12_check 20 = .ok (.ldc 78, 2) := by decide +kernel
theorem dX12_check_22 : decode cX12_check 22 = .ok (.ireturn, 1) := by decide +kernel
theorem dX12_check_23 : decode cX12_check 23 = .ok (.aload_n 0, 1) := by decide +kernel
theorem dX12_check_24 : decode cX12_check 24 = .ok (.getfield 272, 3) := by decide +kernel
theorem dX12_check_27 : decode cX12_check 27 = .ok (.ifCond .ne 7, 3) := by decide +kernel
theorem dX12_check_30 : decode cX12_check 30 = .ok (.ldc_w 268, 3) := by decide +kernel
theorem dX12_check_33 : decode cX12_check 33 = .ok (.ireturn, 1) := by decide +kernel
theorem dX12_check_34 : decode cX12_check 34 = .ok (.aload_n 0, 1) := by decide +kernel
theorem dX12_check_35 : decode cX12_check 35 = .ok (.getfield 9, 3) := by decide +kernel
theorem dX12_check_38 : decode cX12_check 38 = .ok (.aload_n 0, 1) := by decide +kernel
theorem dX12_check_39 : decode cX12_check 39 = .ok (.getfield 16, 3) := by decide +kernel
theorem dX12_check_42 : decode cX12_check 42 = .ok (.invokestatic 276, 3) := by decide +kernel
theorem dX12_check_45 : decode cX12_check 45 = .ok (.aload_n 0, 1) := by decide +kernel
theorem dX12_check_46 : decode cX12_check 46 = .ok (.getfield 13, 3) := by decide +kernel
theorem dX12_check_49 : decode cX12_check 49 = .ok (.aload_n 0, 1) := by decide +kernel
theorem dX12_check_50 : decode cX12_check 50 = .ok (.getfield 9, 3) := by decide +kernel
theorem dX12_check_53 : decode cX12_check 53 = .ok (.invokestatic 276, 3) := by decide +kernel
theorem dX12_check_56 : decode cX12_check 56 = .ok (.iconst 0, 1) := by decide +kernel
theorem dX12_check_57 : decode cX12_check 57 = .ok (.istore_n 3, 1) := by decide +kernel
theorem dX12_check_58 : decode cX12_check 58 = .ok (.iconst 0, 1) := by decide +kernel
theorem dX12_check_59 : decode cX12_check 59 = .ok (.istore 4, 2) := by decide +kernel
theorem dX12_check_61 : decode cX12_check 61 = .ok (.iload 4, 2) := by decide +kernel
theorem dX12_check_63 : decode cX12_check 63 = .ok (.iload_n 1, 1) := by decide +kernel
theorem dX12_check_64 : decode cX12_check 64 = .ok (.if_icmp .ge 87, 3) := by decide +kernel
theorem dX12_check_67 : decode cX12_check 67 = .ok (.iload_n 3, 1) := by decide +kernel
theorem dX12_check_68 : decode cX12_check 68 = .ok (.iconst 2, 1) := by decide +kernel
theorem dX12_check_69 : decode cX12_check 69 = .ok (.iload 4, 2) := by decide +kernel
theorem dX12_check_71 : decode cX12_check 71 = .ok (.imul, 1) := by decide +kernel
theorem dX12_check_72 : decode cX12_check 72 = .ok (.if_icmp .ne 79, 3) := by decide +kernel
theorem dX12_check_75 : decode cX12_check 75 = .ok (.aload_n 0, 1) := by decide +kernel
theorem dX12_check_76 : decode cX12_check 76 = .ok (.invokevirtual 171, 3) := by decide +kernel
theorem dX12_check_79 : decode cX12_check 79 = .ok (.iload_n 3, 1) := by decide +kernel
theorem dX12_check_80 : decode cX12_check 80 = .ok (.iload_n 3, 1) := by decide +kernel
theorem dX12_check_81 : decode cX12_check 81 = .ok (.iload_n 2, 1) := by decide +kernel
theorem dX12_check_82 : decode cX12_check 82 = .ok (.if_icmp .ge 22, 3) := by decide +kernel
theorem dX12_check_85 : decode cX12_check 85 = .ok (.aload_n 0, 1) := by decide +kernel
theorem dX12_check_86 : decode cX12_check 86 = .ok (.getfield 69, 3) := by decide +kernel
theorem dX12_check_89 : decode cX12_check 89 = .ok (.iload_n 3, 1) := by decide +kernel
theorem dX12_check_90 : decode cX12_check 90 = .ok (.iaload, 1) := by decide +kernel
theorem dX12_check_91 : decode cX12_check 91 = .ok (.aload_n 0, 1) := by decide +kernel
theorem dX12_check_92 : decode cX12_check 92 = .ok (.getfield 9, 3) := by decide +kernel
theorem dX12_check_95 : decode cX12_check 95 = .ok (.iconst 4, 1) := by decide +kernel
theorem dX12_check_96 : decode cX12_check 96 = .ok (.iaload, 1) := by decide +kernel
theorem dX12_check_97 : decode cX12_check 97 = .ok (.if_icmp .ne 7, 3) := by decide +kernel
theorem dX12_check_100 : decode cX12_check 100 = .ok (.iconst 1, 1) := by decide +kernel
theorem dX12_check_101 : decode cX12_check 101 = .ok (.goto 4, 3) := by decide +kernel
theorem dX12_check_104 : decode cX12_check 104 = .ok (.iconst 0, 1) := by decide +kernel
theorem dX12_check_105 : decode cX12_check 105 = .ok (.iadd, 1) := by decide +kernel
theorem dX12_check_106 : decode cX12_check 106 = .ok (.istore_n 3, 1) := by decide +kernel
theorem dX12_check_107 : decode cX12_check 107 = .ok (.iload_n 3, 1) := by decide +kernel
theorem dX12_check_108 : decode cX12_check 108 = .ok (.iload_n 3, 1) := by decide +kernel
theorem dX12_check_109 : decode cX12_check 109 = .ok (.iconst 2, 1) := by decide +kernel
theorem dX12_check_110 : decode cX12_check 110 = .ok (.iload 4, 2) := by decide +kernel
theorem dX12_check_112 : decode cX12_check 112 = .ok (.imul, 1) := by decide +kernel
theorem dX12_check_113 : decode cX12_check 113 = .ok (.iconst 1, 1) := by decide +kernel
theorem dX12_check_114 : decode cX12_check 114 = .ok (.iadd, 1) := by decide +kernel
theorem dX12_check_115 : decode cX12_check 115 = .ok (.if_icmp .ne 27, 3) := by decide +kernel
theorem dX12_check_118 : decode cX12_check 118 = .ok (.iload_n 3, 1) := by decide +kernel
theorem dX12_check_119 : decode cX12_check 119 = .ok (.iload_n 2, 1) := by decide +kernel
theorem dX12_check_120 : decode cX12_check 120 = .ok (.if_icmp .ge 22, 3) := by decide +kernel
theorem dX12_check_123 : decode cX12_check 123 = .ok (.aload_n 0, 1) := by decide +kernel
theorem dX12_check_124 : decode cX12_check 124 = .ok (.getfield 69, 3) := by decide +kernel
theorem dX12_check_127 : decode cX12_check 127 = .ok (.iload_n 3, 1) := by decide +kernel
theorem dX12_check_128 : decode cX12_check 128 = .ok (.iaload, 1) := by decide +kernel
theorem dX12_check_129 : decode cX12_check 129 = .ok (.aload_n 0, 1) := by decide +kernel
theorem dX12_check_130 : decode cX12_check 130 = .ok (.getfield 9, 3) := by decide +kernel
theorem dX12_check_133 : decode cX12_check 133 = .ok (.iconst 5, 1) := by decide +kernel
theorem dX12_check_134 : decode cX12_check 134 = .ok (.iaload, 1) := by decide +kernel
theorem dX12_check_135 : decode cX12_check 135 = .ok (.if_icmp .ne 7, 3) := by decide +kernel
theorem dX12_check_138 : decode cX12_check 138 = .ok (.iconst 1, 1) := by decide +kernel
theorem dX12_check_139 : decode cX12_check 139 = .ok (.goto 4, 3) := by decide +kernel
theorem dX12_check_142 : decode cX12_check 142 = .ok (.iconst 0, 1) := by decide +kernel
theorem dX12_check_143 : decode cX12_check 143 = .ok (.iadd, 1) := by decide +kernel
theorem dX12_check_144 : decode cX12_check 144 = .ok (.istore_n 3, 1) := by decide +kernel
theorem dX12_check_145 : decode cX12_check 145 = .ok (.iinc 4 1, 3) := by decide +kernel
theorem dX12_check_148 : decode cX12_check 148 = .ok (.goto (-87), 3) := by decide +kernel
theorem dX12_check_151 : decode cX12_check 151 = .ok (.aload_n 0, 1) := by decide +kernel
theorem dX12_check_152 : decode cX12_check 152 = .ok (.getfield 16, 3) := by decide +kernel
theorem dX12_check_155 : decode cX12_check 155 = .ok (.aload_n 0, 1) := by decide +kernel
theorem dX12_check_156 : decode cX12_check 156 = .ok (.getfield 9, 3) := by decide +kernel
theorem dX12_check_159 : decode cX12_check 159 = .ok (.invokestatic 276, 3) := by decide +kernel
theorem dX12_check_162 : decode cX12_check 162 = .ok (.iload_n 3, 1) := by decide +kernel
theorem dX12_check_163 : decode cX12_check 163 = .ok (.iload_n 2, 1) := by decide +kernel
theorem dX12_check_164 : decode cX12_check 164 = .ok (.if_icmp .ne 14, 3) := by decide +kernel
theorem dX12_check_167 : decode cX12_check 167 = .ok (.iload_n 3, 1) := by decide +kernel
theorem dX12_check_168 : decode cX12_check 168 = .ok (.iconst 2, 1) := by decide +kernel
theorem dX12_check_169 : decode cX12_check 169 = .ok (.iload_n 1, 1) := by decide +kernel
theorem dX12_check_170 : decode cX12_check 170 = .ok (.imul, 1) := by decide +kernel
theorem dX12_check_171 : decode cX12_check 171 = .ok (.if_icmp .ne 7, 3) := by decide +kernel
theorem dX12_check_174 : decode cX12_check 174 = .ok (.iconst 0, 1) := by decide +kernel
theorem dX12_check_175 : decode cX12_check 175 = .ok (.goto 6, 3) := by decide +kernel
theorem dX12_check_178 : decode cX12_check 178 = .ok (.iconst 1, 1) := by decide +kernel
theorem dX12_check_179 : decode cX12_check 179 = .ok (.iload_n 3, 1) := by decide +kernel
theorem dX12_check_180 : decode cX12_check 180 = .ok (.iadd, 1) := by decide +kernel
theorem dX12_check_181 : decode cX12_check 181 = .ok (.ireturn, 1) := by decide +kernel
theorem dX12_keep_0 : decode cX12_keep 0 = .ok (.aload_n 0, 1) := by decide +kernel
theorem dX12_keep_1 : decode cX12_keep 1 = .ok (.getfield 9, 3) := by decide +kernel
theorem dX12_keep_4 : decode cX12_keep 4 = .ok (.aload_n 0, 1) := by decide +kernel
theorem dX12_keep_5 : decode cX12_keep 5 = .ok (.getfield 13, 3) := by decide +kernel
theorem dX12_keep_8 : decode cX12_keep 8 = .ok (.invokestatic 276, 3) := by decide +kernel
theorem dX12_keep_11 : decode cX12_keep 11 = .ok (.aload_n 0, 1) := by decide +kernel
theorem dX12_keep_12 : decode cX12_keep 12 = .ok (.iconst 1, 1) := by decide +kernel
theorem dX12_keep_13 : decode cX12_keep 13 = .ok (.putfield 272, 3) := by decide +kernel
theorem dX12_keep_16 : decode cX12_keep 16 = .ok (.aload_n 0, 1) := by decide +kernel
theorem dX12_keep_17 : decode cX12_keep 17 = .ok (.getfield 9, 3) := by decide +kernel
theorem dX12_keep_20 : decode cX12_keep 20 = .ok (.iconst 2, 1) := by decide +kernel
theorem dX12_keep_21 : decode cX12_keep 21 = .ok (.iaload, 1) := by decide +kernel
theorem dX12_keep_22 : decode cX12_keep 22 = .ok (.ireturn, 1) := by decide +kernel
theorem dX12_back_0 : decode cX12_back 0 = .ok (.aload_n 0, 1) := by decide +kernel
theorem dX12_back_1 : decode cX12_back 1 = .ok (.getfield 272, 3) := by decide +kernel
theorem dX12_back_4 : decode cX12_back 4 = .ok (.ifCond .ne 7, 3) := by decide +kernel
theorem dX12_back_7 : decode cX12_back 7 = .ok (.ldc_w 268, 3) := by decide +kernel
theorem dX12_back_10 : decode cX12_back 10 = .ok (.ireturn, 1) := by decide +kernel
theorem dX12_back_11 : decode cX12_back 11 = .ok (.aload_n 0, 1) := by decide +kernel
theorem dX12_back_12 : decode cX12_back 12 = .ok (.getfield 13, 3) := by decide +kernel
theorem dX12_back_15 : decode cX12_back 15 = .ok (.aload_n 0, 1) := by decide +kernel
theorem dX12_back_16 : decode cX12_back 16 = .ok (.getfield 9, 3) := by decide +kernel
theorem dX12_back_19 : decode cX12_back 19 = .ok (.invokestatic 276, 3) := by decide +kernel
theorem dX12_back_22 : decode cX12_back 22 = .ok (.aload_n 0, 1) := by decide +kernel
theorem dX12_back_23 : decode cX12_back 23 = .ok (.getfield 9, 3) := by decide +kernel
theorem dX12_back_26 : decode cX12_back 26 = .ok (.iconst 2, 1) := by decide +kernel
theorem dX12_back_27 : decode cX12_back 27 = .ok (.iaload, 1) := by decide +kernel
theorem dX12_back_28 : decode cX12_back 28 = .ok (.ireturn, 1) := by decide +kernel
theorem dX12_count_0 : decode cX12_count 0 = .ok (.iload_n 1, 1) := by decide +kernel
theorem dX12_count_1 : decode cX12_count 1 = .ok (.tableswitch 123 0 9 #[55, 62, 69, 76, 83, 90, 98, 106, 111, 116], 55) := by decide +kernel
theorem dX12_count_56 : decode cX12_count 56 = .ok (.aload_n 0, 1) := by decide +kernel
theorem dX12_count_57 : decode cX12_count 57 = .ok (.getfield 9, 3) := by decide +kernel
theorem dX12_count_60 : decode cX12_count 60 = .ok (.iconst 1, 1) := by decide +kernel
theorem dX12_count_61 : decode cX12_count 61 = .ok (.iaload, 1) := by decide +kernel
theorem dX12_count_62 : decode cX12_count 62 = .ok (.ireturn, 1) := by decide +kernel
theorem dX12_count_63 : decode cX12_count 63 = .ok (.aload_n 0, 1) := by decide +kernel
theorem dX12_count_64 : decode cX12_count 64 = .ok (.getfield 9, 3) := by decide +kernel
theorem dX12_count_67 : decode cX12_count 67 = .ok (.iconst 2, 1) := by decide +kernel
theorem dX12_count_68 : decode cX12_count 68 = .ok (.iaload, 1) := by decide +kernel
theorem dX12_count_69 : decode cX12_count 69 = .ok (.ireturn, 1) := by decide +kernel
theorem dX12_count_70 : decode cX12_count 70 = .ok (.aload_n 0, 1) := by decide +kernel
theorem dX12_count_71 : decode cX12_count 71 = .ok (.getfield 9, 3) := by decide +kernel
theorem dX12_count_74 : decode cX12_count 74 = .ok (.iconst 3, 1) := by decide +kernel
theorem dX12_count_75 : decode cX12_count 75 = .ok (.iaload, 1) := by decide +kernel
theorem dX12_count_76 : decode cX12_count 76 = .ok (.ireturn, 1) := by decide +kernel
theorem dX12_count_77 : decode cX12_count 77 = .ok (.aload_n 0, 1) := by decide +kernel
theorem dX12_count_78 : decode cX12_count 78 = .ok (.getfield 9, 3) := by decide +kernel
theorem dX12_count_81 : decode cX12_count 81 = .ok (.iconst 4, 1) := by decide +kernel
theorem dX12_count_82 : decode cX12_count 82 = .ok (.iaload, 1) := by decide +kernel
theorem dX12_count_83 : decode cX12_count 83 = .ok (.ireturn, 1) := by decide +kernel
theorem dX12_count_84 : decode cX12_count 84 = .ok (.aload_n 0, 1) := by decide +kernel
theorem dX12_count_85 : decode cX12_count 85 = .ok (.getfield 9, 3) := by decide +kernel
theorem dX12_count_88 : decode cX12_count 88 = .ok (.iconst 5, 1) := by decide +kernel
theorem dX12_count_89 : decode cX12_count 89 = .ok (.iaload, 1) := by decide +kernel
theorem dX12_count_90 : decode cX12_count 90 = .ok (.ireturn, 1) := by decide +kernel
theorem dX12_count_91 : decode cX12_count 91 = .ok (.aload_n 0, 1) := by decide +kernel
theorem dX12_count_92 : decode cX12_count 92 = .ok (.getfield 9, 3) := by decide +kernel
theorem dX12_count_95 : decode cX12_count 95 = .ok (.bipush 6, 2) := by decide +kernel
theorem dX12_count_97 : decode cX12_count 97 = .ok (.iaload, 1) := by decide +kernel
theorem dX12_count_98 : decode cX12_count 98 = .ok (.ireturn, 1) := by decide +kernel
theorem dX12_count_99 : decode cX12_count 99 = .ok (.aload_n 0, 1) := by decide +kernel
theorem dX12_count_100 : decode cX12_count 100 = .ok (.getfield 9, 3) := by decide +kernel
theorem dX12_count_103 : decode cX12_count 103 = .ok (.bipush 7, 2) := by decide +kernel
theorem dX12_count_105 : decode cX12_count 105 = .ok (.iaload, 1) := by decide +kernel
theorem dX12_count_106 : decode cX12_count 106 = .ok (.ireturn, 1) := by decide +kernel
theorem dX12_count_107 : decode cX12_count 107 = .ok (.aload_n 0, 1) := by decide +kernel
theorem dX12_count_108 : decode cX12_count 108 = .ok (.getfield 269, 3) := by decide +kernel
theorem dX12_count_111 : decode cX12_count 111 = .ok (.ireturn, 1) := by decide +kernel
theorem dX12_count_112 : decode cX12_count 112 = .ok (.aload_n 0, 1) := by decide +kernel
theorem dX12_count_113 : decode cX12_count 113 = .ok (.getfield 189, 3) := by decide +kernel
theorem dX12_count_116 : decode cX12_count 116 = .ok (.ireturn, 1) := by decide +kernel
theorem dX12_count_117 : decode cX12_count 117 = .ok (.aload_n 0, 1) := by decide +kernel
theorem dX12_count_118 : decode cX12_count 118 = .ok (.getfield 9, 3) := by decide +kernel
theorem dX12_count_121 : decode cX12_count 121 = .ok (.iconst 0, 1) := by decide +kernel
theorem dX12_count_122 : decode cX12_count 122 = .ok (.iaload, 1) := by decide +kernel
theorem dX12_count_123 : decode cX12_count 123 = .ok (.ireturn, 1) := by decide +kernel
theorem dX12_count_124 : decode cX12_count 124 = .ok (.ldc 78, 2) := by decide +kernel
theorem dX12_count_126 : decode cX12_count 126 = .ok (.ireturn, 1) := by decide +kernel
theorem dJ6_bitCount_0f7a4_0 : decode cJ6_bitCount_0f7a4 0 = .ok (.iload_n 0, 1) := by decide +kernel
theorem dJ6_bitCount_0f7a4_1 : decode cJ6_bitCount_0f7a4 1 = .ok (.iload_n 0, 1) := by decide +kernel
theorem dJ6_bitCount_0f7a4_2 : decode cJ6_bitCount_0f7a4 2 = .ok (.iconst 1, 1) := by decide +kernel
theorem dJ6_bitCount_0f7a4_3 : decode cJ6_bitCount_0f7a4 3 = .ok (.iushr, 1) := by decide +kernel
theorem dJ6_bitCount_0f7a4_4 : decode cJ6_bitCount_0f7a4 4 = .ok (.ldc_w 265, 3) := by decide +kernel
theorem dJ6_bitCount_0f7a4_7 : decode cJ6_bitCount_0f7a4 7 = .ok (.iand, 1) := by decide +kernel
theorem dJ6_bitCount_0f7a4_8 : decode cJ6_bitCount_0f7a4 8 = .ok (.isub, 1) := by decide +kernel
theorem dJ6_bitCount_0f7a4_9 : decode cJ6_bitCount_0f7a4 9 = .ok (.istore_n 0, 1) := by decide +kernel
theorem dJ6_bitCount_0f7a4_10 : decode cJ6_bitCount_0f7a4 10 = .ok (.iload_n 0, 1) := by decide +kernel
theorem dJ6_bitCount_0f7a4_11 : decode cJ6_bitCount_0f7a4 11 = .ok (.ldc_w 266, 3) := by decide +kernel
theorem dJ6_bitCount_0f7a4_14 : decode cJ6_bitCount_0f7a4 14 = .ok (.iand, 1) := by decide +kernel
theorem dJ6_bitCount_0f7a4_15 : decode cJ6_bitCount_0f7a4 15 = .ok (.iload_n 0, 1) := by decide +kernel
theorem dJ6_bitCount_0f7a4_16 : decode cJ6_bitCount_0f7a4 16 = .ok (.iconst 2, 1) := by decide +kernel
theorem dJ6_bitCount_0f7a4_17 : decode cJ6_bitCount_0f7a4 17 = .ok (.iushr, 1) := by decide +kernel
theorem dJ6_bitCount_0f7a4_18 : decode cJ6_bitCount_0f7a4 18 = .ok (.ldc_w 266, 3) := by decide +kernel
theorem dJ6_bitCount_0f7a4_21 : decode cJ6_bitCount_0f7a4 21 = .ok (.iand, 1) := by decide +kernel
theorem dJ6_bitCount_0f7a4_22 : decode cJ6_bitCount_0f7a4 22 = .ok (.iadd, 1) := by decide +kernel
theorem dJ6_bitCount_0f7a4_23 : decode cJ6_bitCount_0f7a4 23 = .ok (.istore_n 0, 1) := by decide +kernel
theorem dJ6_bitCount_0f7a4_24 : decode cJ6_bitCount_0f7a4 24 = .ok (.iload_n 0, 1) := by decide +kernel
theorem dJ6_bitCount_0f7a4_25 : decode cJ6_bitCount_0f7a4 25 = .ok (.iload_n 0, 1) := by decide +kernel
theorem dJ6_bitCount_0f7a4_26 : decode cJ6_bitCount_0f7a4 26 = .ok (.iconst 4, 1) := by decide +kernel
theorem dJ6_bitCount_0f7a4_27 : decode cJ6_bitCount_0f7a4 27 = .ok (.iushr, 1) := by decide +kernel
theorem dJ6_bitCount_0f7a4_28 : decode cJ6_bitCount_0f7a4 28 = .ok (.iadd, 1) := by decide +kernel
theorem dJ6_bitCount_0f7a4_29 : decode cJ6_bitCount_0f7a4 29 = .ok (.ldc_w 267, 3) := by decide +kernel
theorem dJ6_bitCount_0f7a4_32 : decode cJ6_bitCount_0f7a4 32 = .ok (.iand, 1) := by decide +kernel
theorem dJ6_bitCount_0f7a4_33 : decode cJ6_bitCount_0f7a4 33 = .ok (.istore_n 0, 1) := by decide +kernel
theorem dJ6_bitCount_0f7a4_34 : decode cJ6_bitCount_0f7a4 34 = .ok (.iload_n 0, 1) := by decide +kernel
theorem dJ6_bitCount_0f7a4_35 : decode cJ6_bitCount_0f7a4 35 = .ok (.iload_n 0, 1) := by decide +kernel
theorem dJ6_bitCount_0f7a4_36 : decode cJ6_bitCount_0f7a4 36 = .ok (.bipush 8, 2) := by decide +kernel
theorem dJ6_bitCount_0f7a4_38 : decode cJ6_bitCount_0f7a4 38 = .ok (.iushr, 1) := by decide +kernel
theorem dJ6_bitCount_0f7a4_39 : decode cJ6_bitCount_0f7a4 39 = .ok (.iadd, 1) := by decide +kernel
theorem dJ6_bitCount_0f7a4_40 : decode cJ6_bitCount_0f7a4 40 = .ok (.istore_n 0, 1) := by decide +kernel
theorem dJ6_bitCount_0f7a4_41 : decode cJ6_bitCount_0f7a4 41 = .ok (.iload_n 0, 1) := by decide +kernel
theorem dJ6_bitCount_0f7a4_42 : decode cJ6_bitCount_0f7a4 42 = .ok (.iload_n 0, 1) := by decide +kernel
theorem dJ6_bitCount_0f7a4_43 : decode cJ6_bitCount_0f7a4 43 = .ok (.bipush 16, 2) := by decide +kernel
theorem dJ6_bitCount_0f7a4_45 : decode cJ6_bitCount_0f7a4 45 = .ok (.iushr, 1) := by decide +kernel
theorem dJ6_bitCount_0f7a4_46 : decode cJ6_bitCount_0f7a4 46 = .ok (.iadd, 1) := by decide +kernel
theorem dJ6_bitCount_0f7a4_47 : decode cJ6_bitCount_0f7a4 47 = .ok (.istore_n 0, 1) := by decide +kernel
theorem dJ6_bitCount_0f7a4_48 : decode cJ6_bitCount_0f7a4 48 = .ok (.iload_n 0, 1) := by decide +kernel
theorem dJ6_bitCount_0f7a4_49 : decode cJ6_bitCount_0f7a4 49 = .ok (.bipush 63, 2) := by decide +kernel
theorem dJ6_bitCount_0f7a4_51 : decode cJ6_bitCount_0f7a4 51 = .ok (.iand, 1) := by decide +kernel
theorem dJ6_bitCount_0f7a4_52 : decode cJ6_bitCount_0f7a4 52 = .ok (.ireturn, 1) := by decide +kernel
theorem dJ9_max_7cf53_0 : decode cJ9_max_7cf53 0 = .ok (.iload_n 0, 1) := by decide +kernel
theorem dJ9_max_7cf53_1 : decode cJ9_max_7cf53 1 = .ok (.iload_n 1, 1) := by decide +kernel
theorem dJ9_max_7cf53_2 : decode cJ9_max_7cf53 2 = .ok (.if_icmp .lt 7, 3) := by decide +kernel
theorem dJ9_max_7cf53_5 : decode cJ9_max_7cf53 5 = .ok (.iload_n 0, 1) := by decide +kernel
theorem dJ9_max_7cf53_6 : decode cJ9_max_7cf53 6 = .ok (.goto 4, 3) := by decide +kernel
theorem dJ9_max_7cf53_9 : decode cJ9_max_7cf53 9 = .ok (.iload_n 1, 1) := by decide +kernel
theorem dJ9_max_7cf53_10 : decode cJ9_max_7cf53 10 = .ok (.ireturn, 1) := by decide +kernel
theorem dJ9_min_7cf53_0 : decode cJ9_min_7cf53 0 = .ok (.iload_n 0, 1) := by decide +kernel
theorem dJ9_min_7cf53_1 : decode cJ9_min_7cf53 1 = .ok (.iload_n 1, 1) := by decide +kernel
theorem dJ9_min_7cf53_2 : decode cJ9_min_7cf53 2 = .ok (.if_icmp .gt 7, 3) := by decide +kernel
theorem dJ9_min_7cf53_5 : decode cJ9_min_7cf53 5 = .ok (.iload_n 0, 1) := by decide +kernel
theorem dJ9_min_7cf53_6 : decode cJ9_min_7cf53 6 = .ok (.goto 4, 3) := by decide +kernel
theorem dJ9_min_7cf53_9 : decode cJ9_min_7cf53 9 = .ok (.iload_n 1, 1) := by decide +kernel
theorem dJ9_min_7cf53_10 : decode cJ9_min_7cf53 10 = .ok (.ireturn, 1) := by decide +kernel
theorem dJ0_length_8abf5_0 : decode cJ0_length_8abf5 0 = .ok (.aload_n 0, 1) := by decide +kernel
theorem dJ0_length_8abf5_1 : decode cJ0_length_8abf5 1 = .ok (.getfield 9, 3) := by decide +kernel
theorem dJ0_length_8abf5_4 : decode cJ0_length_8abf5 4 = .ok (.arraylength, 1) := by decide +kernel
theorem dJ0_length_8abf5_5 : decode cJ0_length_8abf5 5 = .ok (.aload_n 0, 1) := by decide +kernel
theorem dJ0_length_8abf5_6 : decode cJ0_length_8abf5 6 = .ok (.invokevirtual 335, 3) := by decide +kernel
theorem dJ0_length_8abf5_9 : decode cJ0_length_8abf5 9 = .ok (.ishr, 1) := by decide +kernel
theorem dJ0_length_8abf5_10 : decode cJ0_length_8abf5 10 = .ok (.ireturn, 1) := by decide +kernel
theorem dJ0_charAt_5068e_0 : decode cJ0_charAt_5068e 0 = .ok (.aload_n 0, 1) := by decide +kernel
theorem dJ0_charAt_5068e_1 : decode cJ0_charAt_5068e 1 = .ok (.invokevirtual 492, 3) := by decide +kernel
theorem dJ0_charAt_5068e_4 : decode cJ0_charAt_5068e 4 = .ok (.ifCond .eq 12, 3) := by decide +kernel
theorem dJ0_charAt_5068e_7 : decode cJ0_charAt_5068e 7 = .ok (.aload_n 0, 1) := by decide +kernel
theorem dJ0_charAt_5068e_8 : decode cJ0_charAt_5068e 8 = .ok (.getfield 9, 3) := by decide +kernel
theorem dJ0_charAt_5068e_11 : decode cJ0_charAt_5068e 11 = .ok (.iload_n 1, 1) := by decide +kernel
theorem dJ0_charAt_5068e_12 : decode cJ0_charAt_5068e 12 = .ok (.invokestatic 495, 3) := by decide +kernel
theorem dJ0_charAt_5068e_15 : decode cJ0_charAt_5068e 15 = .ok (.ireturn, 1) := by decide +kernel
theorem dJ0_charAt_5068e_16 : decode cJ0_charAt_5068e 16 = .ok (.aload_n 0, 1) := by decide +kernel
theorem dJ0_charAt_5068e_17 : decode cJ0_charAt_5068e 17 = .ok (.getfield 9, 3) := by decide +kernel
theorem dJ0_charAt_5068e_20 : decode cJ0_charAt_5068e 20 = .ok (.iload_n 1, 1) := by decide +kernel
theorem dJ0_charAt_5068e_21 : decode cJ0_charAt_5068e 21 = .ok (.invokestatic 498, 3) := by decide +kernel
theorem dJ0_charAt_5068e_24 : decode cJ0_charAt_5068e 24 = .ok (.ireturn, 1) := by decide +kernel
theorem dJ0_indexOf_0f7a4_0 : decode cJ0_indexOf_0f7a4 0 = .ok (.aload_n 0, 1) := by decide +kernel
theorem dJ0_indexOf_0f7a4_1 : decode cJ0_indexOf_0f7a4 1 = .ok (.iload_n 1, 1) := by decide +kernel
theorem dJ0_indexOf_0f7a4_2 : decode cJ0_indexOf_0f7a4 2 = .ok (.iconst 0, 1) := by decide +kernel
theorem dJ0_indexOf_0f7a4_3 : decode cJ0_indexOf_0f7a4 3 = .ok (.invokevirtual 633, 3) := by decide +kernel
theorem dJ0_indexOf_0f7a4_6 : decode cJ0_indexOf_0f7a4 6 = .ok (.ireturn, 1) := by decide +kernel
theorem dJ0_indexOf_7cf53_0 : decode cJ0_indexOf_7cf53 0 = .ok (.aload_n 0, 1) := by decide +kernel
theorem dJ0_indexOf_7cf53_1 : decode cJ0_indexOf_7cf53 1 = .ok (.invokevirtual 492, 3) := by decide +kernel
theorem dJ0_indexOf_7cf53_4 : decode cJ0_indexOf_7cf53 4 = .ok (.ifCond .eq 19, 3) := by decide +kernel
theorem dJ0_indexOf_7cf53_7 : decode cJ0_indexOf_7cf53 7 = .ok (.aload_n 0, 1) := by decide +kernel
theorem dJ0_indexOf_7cf53_8 : decode cJ0_indexOf_7cf53 8 = .ok (.getfield 9, 3) := by decide +kernel
theorem dJ0_indexOf_7cf53_11 : decode cJ0_indexOf_7cf53 11 = .ok (.iload_n 1, 1) := by decide +kernel
theorem dJ0_indexOf_7cf53_12 : decode cJ0_indexOf_7cf53 12 = .ok (.iload_n 2, 1) := by decide +kernel
theorem dJ0_indexOf_7cf53_13 : decode cJ0_indexOf_7cf53 13 = .ok (.aload_n 0, 1) := by decide +kernel
theorem dJ0_indexOf_7cf53_14 : decode cJ0_indexOf_7cf53 14 = .ok (.invokevirtual 505, 3) := by decide +kernel
theorem dJ0_indexOf_7cf53_17 : decode cJ0_indexOf_7cf53 17 = .ok (.invokestatic 637, 3) := by decide +kernel
theorem dJ0_indexOf_7cf53_20 : decode cJ0_indexOf_7cf53 20 = .ok (.goto 16, 3) := by decide +kernel
theorem dJ0_indexOf_7cf53_23 : decode cJ0_indexOf_7cf53 23 = .ok (.aload_n 0, 1) := by decide +kernel
theorem dJ0_indexOf_7cf53_24 : decode cJ0_indexOf_7cf53 24 = .ok (.getfield 9, 3) := by decide +kernel
theorem dJ0_indexOf_7cf53_27 : decode cJ0_indexOf_7cf53 27 = .ok (.iload_n 1, 1) := by decide +kernel
theorem dJ0_indexOf_7cf53_28 : decode cJ0_indexOf_7cf53 28 = .ok (.iload_n 2, 1) := by decide +kernel
theorem dJ0_indexOf_7cf53_29 : decode cJ0_indexOf_7cf53 29 = .ok (.aload_n 0, 1) := by decide +kernel
theorem dJ0_indexOf_7cf53_30 : decode cJ0_indexOf_7cf53 30 = .ok (.invokevirtual 505, 3) := by decide +kernel
theorem dJ0_indexOf_7cf53_33 : decode cJ0_indexOf_7cf53 33 = .ok (.invokestatic 640, 3) := by decide +kernel
theorem dJ0_indexOf_7cf53_36 : decode cJ0_indexOf_7cf53 36 = .ok (.ireturn, 1) := by decide +kernel
theorem dJ0_coder_7d493_0 : decode cJ0_coder_7d493 0 = .ok (.getstatic 38, 3) := by decide +kernel
theorem dJ0_coder_7d493_3 : decode cJ0_coder_7d493 3 = .ok (.ifCond .eq 10, 3) := by decide +kernel
theorem dJ0_coder_7d493_6 : decode cJ0_coder_7d493 6 = .ok (.aload_n 0, 1) := by decide +kernel
theorem dJ0_coder_7d493_7 : decode cJ0_coder_7d493 7 = .ok (.getfield 15, 3) := by decide +kernel
theorem dJ0_coder_7d493_10 : decode cJ0_coder_7d493 10 = .ok (.goto 4, 3) := by decide +kernel
theorem dJ0_coder_7d493_13 : decode cJ0_coder_7d493 13 = .ok (.iconst 1, 1) := by decide +kernel
theorem dJ0_coder_7d493_14 : decode cJ0_coder_7d493 14 = .ok (.ireturn, 1) := by decide +kernel
theorem dJ0_isLatin1_aae02_0 : decode cJ0_isLatin1_aae02 0 = .ok (.getstatic 38, 3) := by decide +kernel
theorem dJ0_isLatin1_aae02_3 : decode cJ0_isLatin1_aae02 3 = .ok (.ifCond .eq 14, 3) := by decide +kernel
theorem dJ0_isLatin1_aae02_6 : decode cJ0_isLatin1_aae02 6 = .ok (.aload_n 0, 1) := by decide +kernel
theorem dJ0_isLatin1_aae02_7 : decode cJ0_isLatin1_aae02 7 = .ok (.getfield 15, 3) := by decide +kernel
theorem dJ0_isLatin1_aae02_10 : decode cJ0_isLatin1_aae02 10 = .ok (.ifCond .ne 7, 3) := by decide +kernel
theorem dJ0_isLatin1_aae02_13 : decode cJ0_isLatin1_aae02 13 = .ok (.iconst 1, 1) := by decide +kernel
theorem dJ0_isLatin1_aae02_14 : decode cJ0_isLatin1_aae02 14 = .ok (.goto 4, 3) := by decide +kernel
theorem dJ0_isLatin1_aae02_17 : decode cJ0_isLatin1_aae02 17 = .ok (.iconst 0, 1) := by decide +kernel
theorem dJ0_isLatin1_aae02_18 : decode cJ0_isLatin1_aae02 18 = .ok (.ireturn, 1) := by decide +kernel
theorem dJ0_checkIndex_df160_0 : decode cJ0_checkIndex_df160 0 = .ok (.iload_n 0, 1) := by decide +kernel
theorem dJ0_checkIndex_df160_1 : decode cJ0_checkIndex_df160 1 = .ok (.iload_n 1, 1) := by decide +kernel
theorem dJ0_checkIndex_df160_2 : decode cJ0_checkIndex_df160 2 = .ok (.getstatic 1053, 3) := by decide +kernel
theorem dJ0_checkIndex_df160_5 : decode cJ0_checkIndex_df160 5 = .ok (.invokestatic 1059, 3) := by decide +kernel
theorem dJ0_checkIndex_df160_8 : decode cJ0_checkIndex_df160 8 = .ok (.pop, 1) := by decide +kernel
theorem dJ0_checkIndex_df160_9 : decode cJ0_checkIndex_df160 9 = .ok (.return_, 1) := by decide +kernel
theorem dJ1_charAt_3b067_0 : decode cJ1_charAt_3b067 0 = .ok (.iload_n 1, 1) := by decide +kernel
theorem dJ1_charAt_3b067_1 : decode cJ1_charAt_3b067 1 = .ok (.aload_n 0, 1) := by decide +kernel
theorem dJ1_charAt_3b067_2 : decode cJ1_charAt_3b067 2 = .ok (.arraylength, 1) := by decide +kernel
theorem dJ1_charAt_3b067_3 : decode cJ1_charAt_3b067 3 = .ok (.invokestatic 9, 3) := by decide +kernel
theorem dJ1_charAt_3b067_6 : decode cJ1_charAt_3b067 6 = .ok (.aload_n 0, 1) := by decide +kernel
theorem dJ1_charAt_3b067_7 : decode cJ1_charAt_3b067 7 = .ok (.iload_n 1, 1) := by decide +kernel
theorem dJ1_charAt_3b067_8 : decode cJ1_charAt_3b067 8 = .ok (.baload, 1) := by decide +kernel
theorem dJ1_charAt_3b067_9 : decode cJ1_charAt_3b067 9 = .ok (.sipush 255, 3) := by decide +kernel
theorem dJ1_charAt_3b067_12 : decode cJ1_charAt_3b067 12 = .ok (.iand, 1) := by decide +kernel
theorem dJ1_charAt_3b067_13 : decode cJ1_charAt_3b067 13 = .ok (.i2c, 1) := by decide +kernel
theorem dJ1_charAt_3b067_14 : decode cJ1_charAt_3b067 14 = .ok (.ireturn, 1) := by decide +kernel
theorem dJ1_canEncode_9a6ad_0 : decode cJ1_canEncode_9a6ad 0 = .ok (.iload_n 0, 1) := by decide +kernel
theorem dJ1_canEncode_9a6ad_1 : decode cJ1_canEncode_9a6ad 1 = .ok (.ifCond .lt 14, 3) := by decide +kernel
theorem dJ1_canEncode_9a6ad_4 : decode cJ1_canEncode_9a6ad 4 = .ok (.iload_n 0, 1) := by decide +kernel
theorem dJ1_canEncode_9a6ad_5 : decode cJ1_canEncode_9a6ad 5 = .ok (.sipush 255, 3) := by decide +kernel
theorem dJ1_canEncode_9a6ad_8 : decode cJ1_canEncode_9a6ad 8 = .ok (.if_icmp .gt 7, 3) := by decide +kernel
theorem dJ1_canEncode_9a6ad_11 : decode cJ1_canEncode_9a6ad 11 = .ok (.iconst 1, 1) := by decide +kernel
theorem dJ1_canEncode_9a6ad_12 : decode cJ1_canEncode_9a6ad 12 = .ok (.goto 4, 3) := by decide +kernel
theorem dJ1_canEncode_9a6ad_15 : decode cJ1_canEncode_9a6ad 15 = .ok (.iconst 0, 1) := by decide +kernel
theorem dJ1_canEncode_9a6ad_16 : decode cJ1_canEncode_9a6ad 16 = .ok (.ireturn, 1) := by decide +kernel
theorem dJ1_indexOf_4cfef_0 : decode cJ1_indexOf_4cfef 0 = .ok (.iload_n 1, 1) := by decide +kernel
theorem dJ1_indexOf_4cfef_1 : decode cJ1_indexOf_4cfef 1 = .ok (.invokestatic 88, 3) := by decide +kernel
theorem dJ1_indexOf_4cfef_4 : decode cJ1_indexOf_4cfef 4 = .ok (.ifCond .ne 5, 3) := by decide +kernel
theorem dJ1_indexOf_4cfef_7 : decode cJ1_indexOf_4cfef 7 = .ok (.iconst (-1), 1) := by decide +kernel
theorem dJ1_indexOf_4cfef_8 : decode cJ1_indexOf_4cfef 8 = .ok (.ireturn, 1) := by decide +kernel
theorem dJ1_indexOf_4cfef_9 : decode cJ1_indexOf_4cfef 9 = .ok (.iload_n 2, 1) := by decide +kernel
theorem dJ1_indexOf_4cfef_10 : decode cJ1_indexOf_4cfef 10 = .ok (.iconst 0, 1) := by decide +kernel
theorem dJ1_indexOf_4cfef_11 : decode cJ1_indexOf_4cfef 11 = .ok (.invokestatic 92, 3) := by decide +kernel
theorem dJ1_indexOf_4cfef_14 : decode cJ1_indexOf_4cfef 14 = .ok (.istore_n 2, 1) := by decide +kernel
theorem dJ1_indexOf_4cfef_15 : decode cJ1_indexOf_4cfef 15 = .ok (.iload_n 3, 1) := by decide +kernel
theorem dJ1_indexOf_4cfef_16 : decode cJ1_indexOf_4cfef 16 = .ok (.aload_n 0, 1) := by decide +kernel
theorem dJ1_indexOf_4cfef_17 : decode cJ1_indexOf_4cfef 17 = .ok (.arraylength, 1) := by decide +kernel
theorem dJ1_indexOf_4cfef_18 : decode cJ1_indexOf_4cfef 18 = .ok (.invokestatic 38, 3) := by decide +kernel
theorem dJ1_indexOf_4cfef_21 : decode cJ1_indexOf_4cfef 21 = .ok (.istore_n 3, 1) := by decide +kernel
theorem dJ1_indexOf_4cfef_22 : decode cJ1_indexOf_4cfef 22 = .ok (.iload_n 2, 1) := by decide +kernel
theorem dJ1_indexOf_4cfef_23 : decode cJ1_indexOf_4cfef 23 = .ok (.iload_n 3, 1) := by decide +kernel
theorem dJ1_indexOf_4cfef_24 : decode cJ1_indexOf_4cfef 24 = .ok (.if_icmp .lt 5, 3) := by decide +kernel
theorem dJ1_indexOf_4cfef_27 : decode cJ1_indexOf_4cfef 27 = .ok (.iconst (-1), 1) := by decide +kernel
theorem dJ1_indexOf_4cfef_28 : decode cJ1_indexOf_4cfef 28 = .ok (.ireturn, 1) := by decide +kernel
theorem dJ1_indexOf_4cfef_29 : decode cJ1_indexOf_4cfef 29 = .ok (.aload_n 0, 1) := by decide +kernel
theorem dJ1_indexOf_4cfef_30 : decode cJ1_indexOf_4cfef 30 = .ok (.iload_n 1, 1) := by decide +kernel
theorem dJ1_indexOf_4cfef_31 : decode cJ1_indexOf_4cfef 31 = .ok (.iload_n 2, 1) := by decide +kernel
theorem dJ1_indexOf_4cfef_32 : decode cJ1_indexOf_4cfef 32 = .ok (.iload_n 3, 1) := by decide +kernel
theorem dJ1_indexOf_4cfef_33 : decode cJ1_indexOf_4cfef 33 = .ok (.invokestatic 95, 3) := by decide +kernel
theorem dJ1_indexOf_4cfef_36 : decode cJ1_indexOf_4cfef 36 = .ok (.ireturn, 1) := by decide +kernel
theorem dJ1_indexOfChar_4cfef_0 : decode cJ1_indexOfChar_4cfef 0 = .ok (.iload_n 1, 1) := by decide +kernel
theorem dJ1_indexOfChar_4cfef_1 : decode cJ1_indexOfChar_4cfef 1 = .ok (.i2b, 1) := by decide +kernel
theorem dJ1_indexOfChar_4cfef_2 : decode cJ1_indexOfChar_4cfef 2 = .ok (.istore 4, 2) := by decide +kernel
theorem dJ1_indexOfChar_4cfef_4 : decode cJ1_indexOfChar_4cfef 4 = .ok (.iload_n 2, 1) := by decide +kernel
theorem dJ1_indexOfChar_4cfef_5 : decode cJ1_indexOfChar_4cfef 5 = .ok (.istore 5, 2) := by decide +kernel
theorem dJ1_indexOfChar_4cfef_7 : decode cJ1_indexOfChar_4cfef 7 = .ok (.iload 5, 2) := by decide +kernel
theorem dJ1_indexOfChar_4cfef_9 : decode cJ1_indexOfChar_4cfef 9 = .ok (.iload_n 3, 1) := by decide +kernel
theorem dJ1_indexOfChar_4cfef_10 : decode cJ1_indexOfChar_4cfef 10 = .ok (.if_icmp .ge 21, 3) := by decide +kernel
theorem dJ1_indexOfChar_4cfef_13 : decode cJ1_indexOfChar_4cfef 13 = .ok (.aload_n 0, 1) := by decide +kernel
theorem dJ1_indexOfChar_4cfef_14 : decode cJ1_indexOfChar_4cfef 14 = .ok (.iload 5, 2) := by decide +kernel
theorem dJ1_indexOfChar_4cfef_16 : decode cJ1_indexOfChar_4cfef 16 = .ok (.baload, 1) := by decide +kernel
theorem dJ1_indexOfChar_4cfef_17 : decode cJ1_indexOfChar_4cfef 17 = .ok (.iload 4, 2) := by decide +kernel
theorem dJ1_indexOfChar_4cfef_19 : decode cJ1_indexOfChar_4cfef 19 = .ok (.if_icmp .ne 6, 3) := by decide +kernel
theorem dJ1_indexOfChar_4cfef_22 : decode cJ1_indexOfChar_4cfef 22 = .ok (.iload 5, 2) := by decide +kernel
theorem dJ1_indexOfChar_4cfef_24 : decode cJ1_indexOfChar_4cfef 24 = .ok (.ireturn, 1) := by decide +kernel
theorem dJ1_indexOfChar_4cfef_25 : decode cJ1_indexOfChar_4cfef 25 = .ok (.iinc 5 1, 3) := by decide +kernel
theorem dJ1_indexOfChar_4cfef_28 : decode cJ1_indexOfChar_4cfef 28 = .ok (.goto (-21), 3) := by decide +kernel
theorem dJ1_indexOfChar_4cfef_31 : decode cJ1_indexOfChar_4cfef 31 = .ok (.iconst (-1), 1) := by decide +kernel
theorem dJ1_indexOfChar_4cfef_32 : decode cJ1_indexOfChar_4cfef 32 = .ok (.ireturn, 1) := by decide +kernel
theorem dJ7_fill_53178_0 : decode cJ7_fill_53178 0 = .ok (.iconst 0, 1) := by decide +kernel
theorem dJ7_fill_53178_1 : decode cJ7_fill_53178 1 = .ok (.istore_n 2, 1) := by decide +kernel
theorem dJ7_fill_53178_2 : decode cJ7_fill_53178 2 = .ok (.aload_n 0, 1) := by decide +kernel
theorem dJ7_fill_53178_3 : decode cJ7_fill_53178 3 = .ok (.arraylength, 1) := by decide +kernel
theorem dJ7_fill_53178_4 : decode cJ7_fill_53178 4 = .ok (.istore_n 3, 1) := by decide +kernel
theorem dJ7_fill_53178_5 : decode cJ7_fill_53178 5 = .ok (.iload_n 2, 1) := by decide +kernel
theorem dJ7_fill_53178_6 : decode cJ7_fill_53178 6 = .ok (.iload_n 3, 1) := by decide +kernel
theorem dJ7_fill_53178_7 : decode cJ7_fill_53178 7 = .ok (.if_icmp .ge 13, 3) := by decide +kernel
theorem dJ7_fill_53178_10 : decode cJ7_fill_53178 10 = .ok (.aload_n 0, 1) := by decide +kernel
theorem dJ7_fill_53178_11 : decode cJ7_fill_53178 11 = .ok (.iload_n 2, 1) := by decide +kernel
theorem dJ7_fill_53178_12 : decode cJ7_fill_53178 12 = .ok (.iload_n 1, 1) := by decide +kernel
theorem dJ7_fill_53178_13 : decode cJ7_fill_53178 13 = .ok (.iastore, 1) := by decide +kernel
theorem dJ7_fill_53178_14 : decode cJ7_fill_53178 14 = .ok (.iinc 2 1, 3) := by decide +kernel
theorem dJ7_fill_53178_17 : decode cJ7_fill_53178 17 = .ok (.goto (-12), 3) := by decide +kernel
theorem dJ7_fill_53178_20 : decode cJ7_fill_53178 20 = .ok (.return_, 1) := by decide +kernel
theorem dJ7_copyOf_59c91_0 : decode cJ7_copyOf_59c91 0 = .ok (.iload_n 1, 1) := by decide +kernel
theorem dJ7_copyOf_59c91_1 : decode cJ7_copyOf_59c91 1 = .ok (.aload_n 0, 1) := by decide +kernel
theorem dJ7_copyOf_59c91_2 : decode cJ7_copyOf_59c91 2 = .ok (.arraylength, 1) := by decide +kernel
theorem dJ7_copyOf_59c91_3 : decode cJ7_copyOf_59c91 3 = .ok (.if_icmp .ne 11, 3) := by decide +kernel
theorem dJ7_copyOf_59c91_6 : decode cJ7_copyOf_59c91 6 = .ok (.aload_n 0, 1) := by decide +kernel
theorem dJ7_copyOf_59c91_7 : decode cJ7_copyOf_59c91 7 = .ok (.invokevirtual 316, 3) := by decide +kernel
theorem dJ7_copyOf_59c91_10 : decode cJ7_copyOf_59c91 10 = .ok (.checkcast 317, 3) := by decide +kernel
theorem dJ7_copyOf_59c91_13 : decode cJ7_copyOf_59c91 13 = .ok (.areturn, 1) := by decide +kernel
theorem dJ7_copyOf_59c91_14 : decode cJ7_copyOf_59c91 14 = .ok (.iload_n 1, 1) := by decide +kernel
theorem dJ7_copyOf_59c91_15 : decode cJ7_copyOf_59c91 15 = .ok (.newarray .int, 2) := by decide +kernel
theorem dJ7_copyOf_59c91_17 : decode cJ7_copyOf_59c91 17 = .ok (.astore_n 2, 1) := by decide +kernel
theorem dJ7_copyOf_59c91_18 : decode cJ7_copyOf_59c91 18 = .ok (.aload_n 0, 1) := by decide +kernel
theorem dJ7_copyOf_59c91_19 : decode cJ7_copyOf_59c91 19 = .ok (.iconst 0, 1) := by decide +kernel
theorem dJ7_copyOf_59c91_20 : decode cJ7_copyOf_59c91 20 = .ok (.aload_n 2, 1) := by decide +kernel
theorem dJ7_copyOf_59c91_21 : decode cJ7_copyOf_59c91 21 = .ok (.iconst 0, 1) := by decide +kernel
theorem dJ7_copyOf_59c91_22 : decode cJ7_copyOf_59c91 22 = .ok (.aload_n 0, 1) := by decide +kernel
theorem dJ7_copyOf_59c91_23 : decode cJ7_copyOf_59c91 23 = .ok (.arraylength, 1) := by decide +kernel
theorem dJ7_copyOf_59c91_24 : decode cJ7_copyOf_59c91 24 = .ok (.iload_n 1, 1) := by decide +kernel
theorem dJ7_copyOf_59c91_25 : decode cJ7_copyOf_59c91 25 = .ok (.invokestatic 304, 3) := by decide +kernel
theorem dJ7_copyOf_59c91_28 : decode cJ7_copyOf_59c91 28 = .ok (.invokestatic 150, 3) := by decide +kernel
theorem dJ7_copyOf_59c91_31 : decode cJ7_copyOf_59c91 31 = .ok (.aload_n 2, 1) := by decide +kernel
theorem dJ7_copyOf_59c91_32 : decode cJ7_copyOf_59c91 32 = .ok (.areturn, 1) := by decide +kernel
theorem dJ3_checkIndex_8e157_0 : decode cJ3_checkIndex_8e157 0 = .ok (.iload_n 0, 1) := by decide +kernel
theorem dJ3_checkIndex_8e157_1 : decode cJ3_checkIndex_8e157 1 = .ok (.ifCond .lt 8, 3) := by decide +kernel
theorem dJ3_checkIndex_8e157_4 : decode cJ3_checkIndex_8e157 4 = .ok (.iload_n 0, 1) := by decide +kernel
theorem dJ3_checkIndex_8e157_5 : decode cJ3_checkIndex_8e157 5 = .ok (.iload_n 1, 1) := by decide +kernel
theorem dJ3_checkIndex_8e157_6 : decode cJ3_checkIndex_8e157 6 = .ok (.if_icmp .lt 10, 3) := by decide +kernel
theorem dJ3_checkIndex_8e157_9 : decode cJ3_checkIndex_8e157 9 = .ok (.aload_n 2, 1) := by decide +kernel
theorem dJ3_checkIndex_8e157_10 : decode cJ3_checkIndex_8e157 10 = .ok (.iload_n 0, 1) := by decide +kernel
theorem dJ3_checkIndex_8e157_11 : decode cJ3_checkIndex_8e157 11 = .ok (.iload_n 1, 1) := by decide +kernel
theorem dJ3_checkIndex_8e157_12 : decode cJ3_checkIndex_8e157 12 = .ok (.invokestatic 95, 3) := by decide +kernel
theorem dJ3_checkIndex_8e157_15 : decode cJ3_checkIndex_8e157 15 = .ok (.athrow, 1) := by decide +kernel
theorem dJ3_checkIndex_8e157_16 : decode cJ3_checkIndex_8e157 16 = .ok (.iload_n 0, 1) := by decide +kernel
theorem dJ3_checkIndex_8e157_17 : decode cJ3_checkIndex_8e157 17 = .ok (.ireturn, 1) := by decide +kernel
theorem dL_law_0 : decode cL_law 0 = .ok (.new 7, 3) := by decide +kernel
theorem dL_law_3 : decode cL_law 3 = .ok (.dup, 1) := by decide +kernel
theorem dL_law_4 : decode cL_law 4 = .ok (.invokespecial 9, 3) := by decide +kernel
theorem dL_law_7 : decode cL_law 7 = .ok (.astore_n 1, 1) := by decide +kernel
theorem dL_law_8 : decode cL_law 8 = .ok (.new 10, 3) := by decide +kernel
theorem dL_law_11 : decode cL_law 11 = .ok (.dup, 1) := by decide +kernel
theorem dL_law_12 : decode cL_law 12 = .ok (.invokespecial 12, 3) := by decide +kernel
theorem dL_law_15 : decode cL_law 15 = .ok (.astore_n 2, 1) := by decide +kernel
theorem dL_law_16 : decode cL_law 16 = .ok (.iconst 0, 1) := by decide +kernel
theorem dL_law_17 : decode cL_law 17 = .ok (.istore_n 3, 1) := by decide +kernel
theorem dL_law_18 : decode cL_law 18 = .ok (.iload_n 3, 1) := by decide +kernel
theorem dL_law_19 : decode cL_law 19 = .ok (.aload_n 0, 1) := by decide +kernel
theorem dL_law_20 : decode cL_law 20 = .ok (.arraylength, 1) := by decide +kernel
theorem dL_law_21 : decode cL_law 21 = .ok (.bipush 6, 2) := by decide +kernel
theorem dL_law_23 : decode cL_law 23 = .ok (.isub, 1) := by decide +kernel
theorem dL_law_24 : decode cL_law 24 = .ok (.if_icmp .gt 1535, 3) := by decide +kernel
theorem dL_law_27 : decode cL_law 27 = .ok (.aload_n 0, 1) := by decide +kernel
theorem dL_law_28 : decode cL_law 28 = .ok (.iload_n 3, 1) := by decide +kernel
theorem dL_law_29 : decode cL_law 29 = .ok (.iaload, 1) := by decide +kernel
theorem dL_law_30 : decode cL_law 30 = .ok (.bipush 63, 2) := by decide +kernel
theorem dL_law_32 : decode cL_law 32 = .ok (.iand, 1) := by decide +kernel
theorem dL_law_33 : decode cL_law 33 = .ok (.tableswitch 1520 0 44 #[195, 228, 261, 304, 347, 370, 393, 426, 459, 502, 545, 578, 611, 644, 677, 720, 753, 776, 799, 822, 845, 858, 881, 904, 927, 940, 953, 996, 1019, 1032, 1065, 1088, 1131, 1174, 1197, 1220, 1283, 1326, 1359, 1392, 1425, 1448, 1471, 1484, 1497], 195) := by decide +kernel
theorem dL_law_228 : decode cL_law 228 = .ok (.aload_n 1, 1) := by decide +kernel
theorem dL_law_229 : decode cL_law 229 = .ok (.aload_n 0, 1) := by decide +kernel
theorem dL_law_230 : decode cL_law 230 = .ok (.iload_n 3, 1) := by decide +kernel
theorem dL_law_231 : decode cL_law 231 = .ok (.iconst 1, 1) := by decide +kernel
theorem dL_law_232 : decode cL_law 232 = .ok (.iadd, 1) := by decide +kernel
theorem dL_law_233 : decode cL_law 233 = .ok (.iaload, 1) := by decide +kernel
theorem dL_law_234 : decode cL_law 234 = .ok (.aload_n 0, 1) := by decide +kernel
theorem dL_law_235 : decode cL_law 235 = .ok (.iload_n 3, 1) := by decide +kernel
theorem dL_law_236 : decode cL_law 236 = .ok (.iconst 2, 1) := by decide +kernel
theorem dL_law_237 : decode cL_law 237 = .ok (.iadd, 1) := by decide +kernel
theorem dL_law_238 : decode cL_law 238 = .ok (.iaload, 1) := by decide +kernel
theorem dL_law_239 : decode cL_law 239 = .ok (.invokevirtual 13, 3) := by decide +kernel
theorem dL_law_242 : decode cL_law 242 = .ok (.aload_n 2, 1) := by decide +kernel
theorem dL_law_243 : decode cL_law 243 = .ok (.aload_n 0, 1) := by decide +kernel
theorem dL_law_244 : decode cL_law 244 = .ok (.iload_n 3, 1) := by decide +kernel
theorem dL_law_245 : decode cL_law 245 = .ok (.iconst 1, 1) := by decide +kernel
theorem dL_law_246 : decode cL_law 246 = .ok (.iadd, 1) := by decide +kernel
theorem dL_law_247 : decode cL_law 247 = .ok (.iaload, 1) := by decide +kernel
theorem dL_law_248 : decode cL_law 248 = .ok (.aload_n 0, 1) := by decide +kernel
theorem dL_law_249 : decode cL_law 249 = .ok (.iload_n 3, 1) := by decide +kernel
theorem dL_law_250 : decode cL_law 250 = .ok (.iconst 2, 1) := by decide +kernel
theorem dL_law_251 : decode cL_law 251 = .ok (.iadd, 1) := by decide +kernel
theorem dL_law_252 : decode cL_law 252 = .ok (.iaload, 1) := by decide +kernel
theorem dL_law_253 : decode cL_law 253 = .ok (.invokevirtual 17, 3) := by decide +kernel
theorem dL_law_256 : decode cL_law 256 = .ok (.if_icmp .eq 1297, 3) := by decide +kernel
theorem dL_law_259 : decode cL_law 259 = .ok (.iconst 0, 1) := by decide +kernel
theorem dL_law_260 : decode cL_law 260 = .ok (.ireturn, 1) := by decide +kernel
theorem dL_law_261 : decode cL_law 261 = .ok (.aload_n 1, 1) := by decide +kernel
theorem dL_law_262 : decode cL_law 262 = .ok (.aload_n 0, 1) := by decide +kernel
theorem dL_law_263 : decode cL_law 263 = .ok (.iload_n 3, 1) := by decide +kernel
theorem dL_law_264 : decode cL_law 264 = .ok (.iconst 1, 1) := by decide +kernel
theorem dL_law_265 : decode cL_law 265 = .ok (.iadd, 1) := by decide +kernel
theorem dL_law_266 : decode cL_law 266 = .ok (.iaload, 1) := by decide +kernel
theorem dL_law_267 : decode cL_law 267 = .ok (.aload_n 0, 1) := by decide +kernel
theorem dL_law_268 : decode cL_law 268 = .ok (.iload_n 3, 1) := by decide +kernel
theorem dL_law_269 : decode cL_law 269 = .ok (.iconst 2, 1) := by decide +kernel
theorem dL_law_270 : decode cL_law 270 = .ok (.iadd, 1) := by decide +kernel
theorem dL_law_271 : decode cL_law 271 = .ok (.iaload, 1) := by decide +kernel
theorem dL_law_272 : decode cL_law 272 = .ok (.invokevirtual 18, 3) := by decide +kernel
theorem dL_law_275 : decode cL_law 275 = .ok (.aload_n 2, 1) := by decide +kernel
theorem dL_law_276 : decode cL_law 276 = .ok (.aload_n 0, 1) := by decide +kernel
theorem dL_law_277 : decode cL_law 277 = .ok (.iload_n 3, 1) := by decide +kernel
theorem dL_law_278 : decode cL_law 278 = .ok (.iconst 1, 1) := by decide +kernel
theorem dL_law_279 : decode cL_law 279 = .ok (.iadd, 1) := by decide +kernel
theorem dL_law_280 : decode cL_law 280 = .ok (.iaload, 1) := by decide +kernel
theorem dL_law_281 : decode cL_law 281 = .ok (.aload_n 0, 1) := by decide +kernel
theorem dL_law_282 : decode cL_law 282 = .ok (.iload_n 3, 1) := by decide +kernel
theorem dL_law_283 : decode cL_law 283 = .ok (.iconst 2, 1) := by decide +kernel
theorem dL_law_284 : decode cL_law 284 = .ok (.iadd, 1) := by decide +kernel
theorem dL_law_285 : decode cL_law 285 = .ok (.iaload, 1) := by decide +kernel
theorem dL_law_286 : decode cL_law 286 = .ok (.invokevirtual 21, 3) := by decide +kernel
theorem dL_law_289 : decode cL_law 289 = .ok (.if_icmp .eq 1264, 3) := by decide +kernel
theorem dL_law_292 : decode cL_law 292 = .ok (.iconst 0, 1) := by decide +kernel
theorem dL_law_293 : decode cL_law 293 = .ok (.ireturn, 1) := by decide +kernel
theorem dL_law_294 : decode cL_law 294 = .ok (.aload_n 1, 1) := by decide +kernel
theorem dL_law_295 : decode cL_law 295 = .ok (.aload_n 0, 1) := by decide +kernel
theorem dL_law_296 : decode cL_law 296 = .ok (.iload_n 3, 1) := by decide +kernel
theorem dL_law_297 : decode cL_law 297 = .ok (.iconst 1, 1) := by decide +kernel
theorem dL_law_298 : decode cL_law 298 = .ok (.iadd, 1) := by decide +kernel
theorem dL_law_299 : decode cL_law 299 = .ok (.iaload, 1) := by decide +kernel
theorem dL_law_300 : decode cL_law 300 = .ok (.aload_n 0, 1) := by decide +kernel
theorem dL_law_301 : decode cL_law 301 = .ok (.iload_n 3, 1) := by decide +kernel
theorem dL_law_302 : decode cL_law 302 = .ok (.iconst 2, 1) := by decide +kernel
theorem dL_law_303 : decode cL_law 303 = .ok (.iadd, 1) := by decide +kernel
theorem dL_law_304 : decode cL_law 304 = .ok (.iaload, 1) := by decide +kernel
theorem dL_law_305 : decode cL_law 305 = .ok (.aload_n 0, 1) := by decide +kernel
theorem dL_law_306 : decode cL_law 306 = .ok (.iload_n 3, 1) := by decide +kernel
theorem dL_law_307 : decode cL_law 307 = .ok (.iconst 3, 1) := by decide +kernel
theorem dL_law_308 : decode cL_law 308 = .ok (.iadd, 1) := by decide +kernel
theorem dL_law_309 : decode cL_law 309 = .ok (.iaload, 1) := by decide +kernel
theorem dL_law_310 : decode cL_law 310 = .ok (.invokevirtual 22, 3) := by decide +kernel
theorem dL_law_313 : decode cL_law 313 = .ok (.aload_n 2, 1) := by decide +kernel
theorem dL_law_314 : decode cL_law 314 = .ok (.aload_n 0, 1) := by decide +kernel
theorem dL_law_315 : decode cL_law 315 = .ok (.iload_n 3, 1) := by decide +kernel
theorem dL_law_316 : decode cL_law 316 = .ok (.iconst 1, 1) := by decide +kernel
theorem dL_law_317 : decode cL_law 317 = .ok (.iadd, 1) := by decide +kernel
theorem dL_law_318 : decode cL_law 318 = .ok (.iaload, 1) := by decide +kernel
theorem dL_law_319 : decode cL_law 319 = .ok (.aload_n 0, 1) := by decide +kernel
theorem dL_law_320 : decode cL_law 320 = .ok (.iload_n 3, 1) := by decide +kernel
theorem dL_law_321 : decode cL_law 321 = .ok (.iconst 2, 1) := by decide +kernel
theorem dL_law_322 : decode cL_law 322 = .ok (.iadd, 1) := by decide +kernel
theorem dL_law_323 : decode cL_law 323 = .ok (.iaload, 1) := by decide +kernel
theorem dL_law_324 : decode cL_law 324 = .ok (.aload_n 0, 1) := by decide +kernel
theorem dL_law_325 : decode cL_law 325 = .ok (.iload_n 3, 1) := by decide +kernel
theorem dL_law_326 : decode cL_law 326 = .ok (.iconst 3, 1) := by decide +kernel
theorem dL_law_327 : decode cL_law 327 = .ok (.iadd, 1) := by decide +kernel
theorem dL_law_328 : decode cL_law 328 = .ok (.iaload, 1) := by decide +kernel
theorem dL_law_329 : decode cL_law 329 = .ok (.invokevirtual 26, 3) := by decide +kernel
theorem dL_law_332 : decode cL_law 332 = .ok (.if_icmp .eq 1221, 3) := by decide +kernel
theorem dL_law_335 : decode cL_law 335 = .ok (.iconst 0, 1) := by decide +kernel
theorem dL_law_336 : decode cL_law 336 = .ok (.ireturn, 1) := by decide +kernel
theorem dL_law_337 : decode cL_law 337 = .ok (.aload_n 1, 1) := by decide +kernel
theorem dL_law_338 : decode cL_law 338 = .ok (.aload_n 0, 1) := by decide +kernel
theorem dL_law_339 : decode cL_law 339 = .ok (.iload_n 3, 1) := by decide +kernel
theorem dL_law_340 : decode cL_law 340 = .ok (.iconst 1, 1) := by decide +kernel
theorem dL_law_341 : decode cL_law 341 = .ok (.iadd, 1) := by decide +kernel
theorem dL_law_342 : decode cL_law 342 = .ok (.iaload, 1) := by decide +kernel
theorem dL_law_343 : decode cL_law 343 = .ok (.aload_n 0, 1) := by decide +kernel
theorem dL_law_344 : decode cL_law 344 = .ok (.iload_n 3, 1) := by decide +kernel
theorem dL_law_345 : decode cL_law 345 = .ok (.iconst 2, 1) := by decide +kernel
theorem dL_law_346 : decode cL_law 346 = .ok (.iadd, 1) := by decide +kernel
theorem dL_law_347 : decode cL_law 347 = .ok (.iaload, 1) := by decide +kernel
theorem dL_law_348 : decode cL_law 348 = .ok (.aload_n 0, 1) := by decide +kernel
theorem dL_law_349 : decode cL_law 349 = .ok (.iload_n 3, 1) := by decide +kernel
theorem dL_law_350 : decode cL_law 350 = .ok (.iconst 3, 1) := by decide +kernel
theorem dL_law_351 : decode cL_law 351 = .ok (.iadd, 1) := by decide +kernel
theorem dL_law_352 : decode cL_law 352 = .ok (.iaload, 1) := by decide +kernel
theorem dL_law_353 : decode cL_law 353 = .ok (.invokevirtual 27, 3) := by decide +kernel
theorem dL_law_356 : decode cL_law 356 = .ok (.aload_n 2, 1) := by decide +kernel
theorem dL_law_357 : decode cL_law 357 = .ok (.aload_n 0, 1) := by decide +kernel
theorem dL_law_358 : decode cL_law 358 = .ok (.iload_n 3, 1) := by decide +kernel
theorem dL_law_359 : decode cL_law 359 = .ok (.iconst 1, 1) := by decide +kernel
theorem dL_law_360 : decode cL_law 360 = .ok (.iadd, 1) := by decide +kernel
theorem dL_law_361 : decode cL_law 361 = .ok (.iaload, 1) := by decide +kernel
theorem dL_law_362 : decode cL_law 362 = .ok (.aload_n 0, 1) := by decide +kernel
theorem dL_law_363 : decode cL_law 363 = .ok (.iload_n 3, 1) := by decide +kernel
theorem dL_law_364 : decode cL_law 364 = .ok (.iconst 2, 1) := by decide +kernel
theorem dL_law_365 : decode cL_law 365 = .ok (.iadd, 1) := by decide +kernel
theorem dL_law_366 : decode cL_law 366 = .ok (.iaload, 1) := by decide +kernel
theorem dL_law_367 : decode cL_law 367 = .ok (.aload_n 0, 1) := by decide +kernel
theorem dL_law_368 : decode cL_law 368 = .ok (.iload_n 3, 1) := by decide +kernel
theorem dL_law_369 : decode cL_law 369 = .ok (.iconst 3, 1) := by decide +kernel
theorem dL_law_370 : decode cL_law 370 = .ok (.iadd, 1) := by decide +kernel
theorem dL_law_371 : decode cL_law 371 = .ok (.iaload, 1) := by decide +kernel
theorem dL_law_372 : decode cL_law 372 = .ok (.invokevirtual 30, 3) := by decide +kernel
theorem dL_law_375 : decode cL_law 375 = .ok (.if_icmp .eq 1178, 3) := by decide +kernel
theorem dL_law_378 : decode cL_law 378 = .ok (.iconst 0, 1) := by decide +kernel
theorem dL_law_379 : decode cL_law 379 = .ok (.ireturn, 1) := by decide +kernel
theorem dL_law_380 : decode cL_law 380 = .ok (.aload_n 1, 1) := by decide +kernel
theorem dL_law_381 : decode cL_law 381 = .ok (.aload_n 0, 1) := by decide +kernel
theorem dL_law_382 : decode cL_law 382 = .ok (.iload_n 3, 1) := by decide +kernel
theorem dL_law_383 : decode cL_law 383 = .ok (.iconst 1, 1) := by decide +kernel
theorem dL_law_384 : decode cL_law 384 = .ok (.iadd, 1) := by decide +kernel
theorem dL_law_385 : decode cL_law 385 = .ok (.iaload, 1) := by decide +kernel
theorem dL_law_386 : decode cL_law 386 = .ok (.invokevirtual 31, 3) := by decide +kernel
theorem dL_law_389 : decode cL_law 389 = .ok (.aload_n 2, 1) := by decide +kernel
theorem dL_law_390 : decode cL_law 390 = .ok (.aload_n 0, 1) := by decide +kernel
theorem dL_law_391 : decode cL_law 391 = .ok (.iload_n 3, 1) := by decide +kernel
theorem dL_law_392 : decode cL_law 392 = .ok (.iconst 1, 1) := by decide +kernel
theorem dL_law_393 : decode cL_law 393 = .ok (.iadd, 1) := by decide +kernel
theorem dL_law_394 : decode cL_law 394 = .ok (.iaload, 1) := by decide +kernel
theorem dL_law_395 : decode cL_law 395 = .ok (.invokevirtual 35, 3) := by decide +kernel
theorem dL_law_398 : decode cL_law 398 = .ok (.if_icmp .eq 1155, 3) := by decide +kernel
theorem dL_law_401 : decode cL_law 401 = .ok (.iconst 0, 1) := by decide +kernel
theorem dL_law_402 : decode cL_law 402 = .ok (.ireturn, 1) := by decide +kernel
theorem dL_law_403 : decode cL_law 403 = .ok (.aload_n 1, 1) := by decide +kernel
theorem dL_law_404 : decode cL_law 404 = .ok (.aload_n 0, 1) := by decide +kernel
theorem dL_law_405 : decode cL_law 405 = .ok (.iload_n 3, 1) := by decide +kernel
theorem dL_law_406 : decode cL_law 406 = .ok (.iconst 1, 1) := by decide +kernel
theorem dL_law_407 : decode cL_law 407 = .ok (.iadd, 1) := by decide +kernel
theorem dL_law_408 : decode cL_law 408 = .ok (.iaload, 1) := by decide +kernel
theorem dL_law_409 : decode cL_law 409 = .ok (.invokevirtual 36, 3) := by decide +kernel
theorem dL_law_412 : decode cL_law 412 = .ok (.aload_n 2, 1) := by decide +kernel
theorem dL_law_413 : decode cL_law 413 = .ok (.aload_n 0, 1) := by decide +kernel
theorem dL_law_414 : decode cL_law 414 = .ok (.iload_n 3, 1) := by decide +kernel
theorem dL_law_415 : decode cL_law 415 = .ok (.iconst 1, 1) := by decide +kernel
theorem dL_law_416 : decode cL_law 416 = .ok (.iadd, 1) := by decide +kernel
theorem dL_law_417 : decode cL_law 417 = .ok (.iaload, 1) := by decide +kernel
theorem dL_law_418 : decode cL_law 418 = .ok (.invokevirtual 39, 3) := by decide +kernel
theorem dL_law_421 : decode cL_law 421 = .ok (.if_icmp .eq 1132, 3) := by decide +kernel
theorem dL_law_424 : decode cL_law 424 = .ok (.iconst 0, 1) := by decide +kernel
theorem dL_law_425 : decode cL_law 425 = .ok (.ireturn, 1) := by decide +kernel
theorem dL_law_426 : decode cL_law 426 = .ok (.aload_n 1, 1) := by decide +kernel
theorem dL_law_427 : decode cL_law 427 = .ok (.aload_n 0, 1) := by decide +kernel
theorem dL_law_428 : decode cL_law 428 = .ok (.iload_n 3, 1) := by decide +kernel
theorem dL_law_429 : decode cL_law 429 = .ok (.iconst 1, 1) := by decide +kernel
theorem dL_law_430 : decode cL_law 430 = .ok (.iadd, 1) := by decide +kernel
theorem dL_law_431 : decode cL_law 431 = .ok (.iaload, 1) := by decide +kernel
theorem dL_law_432 : decode cL_law 432 = .ok (.aload_n 0, 1) := by decide +kernel
theorem dL_law_433 : decode cL_law 433 = .ok (.iload_n 3, 1) := by decide +kernel
theorem dL_law_434 : decode cL_law 434 = .ok (.iconst 2, 1) := by decide +kernel
theorem dL_law_435 : decode cL_law 435 = .ok (.iadd, 1) := by decide +kernel
theorem dL_law_436 : decode cL_law 436 = .ok (.iaload, 1) := by decide +kernel
theorem dL_law_437 : decode cL_law 437 = .ok (.invokevirtual 40, 3) := by decide +kernel
theorem dL_law_440 : decode cL_law 440 = .ok (.aload_n 2, 1) := by decide +kernel
theorem dL_law_441 : decode cL_law 441 = .ok (.aload_n 0, 1) := by decide +kernel
theorem dL_law_442 : decode cL_law 442 = .ok (.iload_n 3, 1) := by decide +kernel
theorem dL_law_443 : decode cL_law 443 = .ok (.iconst 1, 1) := by decide +kernel
theorem dL_law_444 : decode cL_law 444 = .ok (.iadd, 1) := by decide +kernel
theorem dL_law_445 : decode cL_law 445 = .ok (.iaload, 1) := by decide +kernel
theorem dL_law_446 : decode cL_law 446 = .ok (.aload_n 0, 1) := by decide +kernel
theorem dL_law_447 : decode cL_law 447 = .ok (.iload_n 3, 1) := by decide +kernel
theorem dL_law_448 : decode cL_law 448 = .ok (.iconst 2, 1) := by decide +kernel
theorem dL_law_449 : decode cL_law 449 = .ok (.iadd, 1) := by decide +kernel
theorem dL_law_450 : decode cL_law 450 = .ok (.iaload, 1) := by decide +kernel
theorem dL_law_451 : decode cL_law 451 = .ok (.invokevirtual 43, 3) := by decide +kernel
theorem dL_law_454 : decode cL_law 454 = .ok (.if_icmp .eq 1099, 3) := by decide +kernel
theorem dL_law_457 : decode cL_law 457 = .ok (.iconst 0, 1) := by decide +kernel
theorem dL_law_458 : decode cL_law 458 = .ok (.ireturn, 1) := by decide +kernel
theorem dL_law_459 : decode cL_law 459 = .ok (.aload_n 1, 1) := by decide +kernel
theorem dL_law_460 : decode cL_law 460 = .ok (.aload_n 0, 1) := by decide +kernel
theorem dL_law_461 : decode cL_law 461 = .ok (.iload_n 3, 1) := by decide +kernel
theorem dL_law_462 : decode cL_law 462 = .ok (.iconst 1, 1) := by decide +kernel
theorem dL_law_463 : decode cL_law 463 = .ok (.iadd, 1) := by decide +kernel
theorem dL_law_464 : decode cL_law 464 = .ok (.iaload, 1) := by decide +kernel
theorem dL_law_465 : decode cL_law 465 = .ok (.aload_n 0, 1) := by decide +kernel
theorem dL_law_466 : decode cL_law 466 = .ok (.iload_n 3, 1) := by decide +kernel
theorem dL_law_467 : decode cL_law 467 = .ok (.iconst 2, 1) := by decide +kernel
theorem dL_law_468 : decode cL_law 468 = .ok (.iadd, 1) := by decide +kernel
theorem dL_law_469 : decode cL_law 469 = .ok (.iaload, 1) := by decide +kernel
theorem dL_law_470 : decode cL_law 470 = .ok (.invokevirtual 44, 3) := by decide +kernel
theorem dL_law_473 : decode cL_law 473 = .ok (.aload_n 2, 1) := by decide +kernel
theorem dL_law_474 : decode cL_law 474 = .ok (.aload_n 0, 1) := by decide +kernel
theorem dL_law_475 : decode cL_law 475 = .ok (.iload_n 3, 1) := by decide +kernel
theorem dL_law_476 : decode cL_law 476 = .ok (.iconst 1, 1) := by decide +kernel
theorem dL_law_477 : decode cL_law 477 = .ok (.iadd, 1) := by decide +kernel
theorem dL_law_478 : decode cL_law 478 = .ok (.iaload, 1) := by decide +kernel
theorem dL_law_479 : decode cL_law 479 = .ok (.aload_n 0, 1) := by decide +kernel
theorem dL_law_480 : decode cL_law 480 = .ok (.iload_n 3, 1) := by decide +kernel
theorem dL_law_481 : decode cL_law 481 = .ok (.iconst 2, 1) := by decide +kernel
theorem dL_law_482 : decode cL_law 482 = .ok (.iadd, 1) := by decide +kernel
theorem dL_law_483 : decode cL_law 483 = .ok (.iaload, 1) := by decide +kernel
theorem dL_law_484 : decode cL_law 484 = .ok (.invokevirtual 47, 3) := by decide +kernel
theorem dL_law_487 : decode cL_law 487 = .ok (.if_icmp .eq 1066, 3) := by decide +kernel
theorem dL_law_490 : decode cL_law 490 = .ok (.iconst 0, 1) := by decide +kernel
theorem dL_law_491 : decode cL_law 491 = .ok (.ireturn, 1) := by decide +kernel
theorem dL_law_492 : decode cL_law 492 = .ok (.aload_n 1, 1) := by decide +kernel
theorem dL_law_493 : decode cL_law 493 = .ok (.aload_n 0, 1) := by decide +kernel
theorem dL_law_494 : decode cL_law 494 = .ok (.iload_n 3, 1) := by decide +kernel
theorem dL_law_495 : decode cL_law 495 = .ok (.iconst 1, 1) := by decide +kernel
theorem dL_law_496 : decode cL_law 496 = .ok (.iadd, 1) := by decide +kernel
theorem dL_law_497 : decode cL_law 497 = .ok (.iaload, 1) := by decide +kernel
theorem dL_law_498 : decode cL_law 498 = .ok (.aload_n 0, 1) := by decide +kernel
theorem dL_law_499 : decode cL_law 499 = .ok (.iload_n 3, 1) := by decide +kernel
theorem dL_law_500 : decode cL_law 500 = .ok (.iconst 2, 1) := by decide +kernel
theorem dL_law_501 : decode cL_law 501 = .ok (.iadd, 1) := by decide +kernel
theorem dL_law_502 : decode cL_law 502 = .ok (.iaload, 1) := by decide +kernel
theorem dL_law_503 : decode cL_law 503 = .ok (.aload_n 0, 1) := by decide +kernel
theorem dL_law_504 : decode cL_law 504 = .ok (.iload_n 3, 1) := by decide +kernel
theorem dL_law_505 : decode cL_law 505 = .ok (.iconst 3, 1) := by decide +kernel
theorem dL_law_506 : decode cL_law 506 = .ok (.iadd, 1) := by decide +kernel
theorem dL_law_507 : decode cL_law 507 = .ok (.iaload, 1) := by decide +kernel
theorem dL_law_508 : decode cL_law 508 = .ok (.invokevirtual 48, 3) := by decide +kernel
theorem dL_law_511 : decode cL_law 511 = .ok (.aload_n 2, 1) := by decide +kernel
theorem dL_law_512 : decode cL_law 512 = .ok (.aload_n 0, 1) := by decide +kernel
theorem dL_law_513 : decode cL_law 513 = .ok (.iload_n 3, 1) := by decide +kernel
theorem dL_law_514 : decode cL_law 514 = .ok (.iconst 1, 1) := by decide +kernel
theorem dL_law_515 : decode cL_law 515 = .ok (.iadd, 1) := by decide +kernel
theorem dL_law_516 : decode cL_law 516 = .ok (.iaload, 1) := by decide +kernel
theorem dL_law_517 : decode cL_law 517 = .ok (.aload_n 0, 1) := by decide +kernel
theorem dL_law_518 : decode cL_law 518 = .ok (.iload_n 3, 1) := by decide +kernel
theorem dL_law_519 : decode cL_law 519 = .ok (.iconst 2, 1) := by decide +kernel
theorem dL_law_520 : decode cL_law 520 = .ok (.iadd, 1) := by decide +kernel
theorem dL_law_521 : decode cL_law 521 = .ok (.iaload, 1) := by decide +kernel
theorem dL_law_522 : decode cL_law 522 = .ok (.aload_n 0, 1) := by decide +kernel
theorem dL_law_523 : decode cL_law 523 = .ok (.iload_n 3, 1) := by decide +kernel
theorem dL_law_524 : decode cL_law 524 = .ok (.iconst 3, 1) := by decide +kernel
theorem dL_law_525 : decode cL_law 525 = .ok (.iadd, 1) := by decide +kernel
theorem dL_law_526 : decode cL_law 526 = .ok (.iaload, 1) := by decide +kernel
theorem dL_law_527 : decode cL_law 527 = .ok (.invokevirtual 51, 3) := by decide +kernel
theorem dL_law_530 : decode cL_law 530 = .ok (.if_icmp .eq 1023, 3) := by decide +kernel
theorem dL_law_533 : decode cL_law 533 = .ok (.iconst 0, 1) := by decide +kernel
theorem dL_law_534 : decode cL_law 534 = .ok (.ireturn, 1) := by decide +kernel
theorem dL_law_535 : decode cL_law 535 = .ok (.aload_n 1, 1) := by decide +kernel
theorem dL_law_536 : decode cL_law 536 = .ok (.aload_n 0, 1) := by decide +kernel
theorem dL_law_537 : decode cL_law 537 = .ok (.iload_n 3, 1) := by decide +kernel
theorem dL_law_538 : decode cL_law 538 = .ok (.iconst 1, 1) := by decide +kernel
theorem dL_law_539 : decode cL_law 539 = .ok (.iadd, 1) := by decide +kernel
theorem dL_law_540 : decode cL_law 540 = .ok (.iaload, 1) := by decide +kernel
theorem dL_law_541 : decode cL_law 541 = .ok (.aload_n 0, 1) := by decide +kernel
theorem dL_law_542 : decode cL_law 542 = .ok (.iload_n 3, 1) := by decide +kernel
theorem dL_law_543 : decode cL_law 543 = .ok (.iconst 2, 1) := by decide +kernel
theorem dL_law_544 : decode cL_law 544 = .ok (.iadd, 1) := by decide +kernel
theorem dL_law_545 : decode cL_law 545 = .ok (.iaload, 1) := by decide +kernel
theorem dL_law_546 : decode cL_law 546 = .ok (.aload_n 0, 1) := by decide +kernel
theorem dL_law_547 : decode cL_law 547 = .ok (.iload_n 3, 1) := by decide +kernel
theorem dL_law_548 : decode cL_law 548 = .ok (.iconst 3, 1) := by decide +kernel
theorem dL_law_549 : decode cL_law 549 = .ok (.iadd, 1) := by decide +kernel
theorem dL_law_550 : decode cL_law 550 = .ok (.iaload, 1) := by decide +kernel
theorem dL_law_551 : decode cL_law 551 = .ok (.invokevirtual 52, 3) := by decide +kernel
theorem dL_law_554 : decode cL_law 554 = .ok (.aload_n 2, 1) := by decide +kernel
theorem dL_law_555 : decode cL_law 555 = .ok (.aload_n 0, 1) := by decide +kernel
theorem dL_law_556 : decode cL_law 556 = .ok (.iload_n 3, 1) := by decide +kernel
theorem dL_law_557 : decode cL_law 557 = .ok (.iconst 1, 1) := by decide +kernel
theorem dL_law_558 : decode cL_law 558 = .ok (.iadd, 1) := by decide +kernel
theorem dL_law_559 : decode cL_law 559 = .ok (.iaload, 1) := by decide +kernel
theorem dL_law_560 : decode cL_law 560 = .ok (.aload_n 0, 1) := by decide +kernel
theorem dL_law_561 : decode cL_law 561 = .ok (.iload_n 3, 1) := by decide +kernel
theorem dL_law_562 : decode cL_law 562 = .ok (.iconst 2, 1) := by decide +kernel
theorem dL_law_563 : decode cL_law 563 = .ok (.iadd, 1) := by decide +kernel
theorem dL_law_564 : decode cL_law 564 = .ok (.iaload, 1) := by decide +kernel
theorem dL_law_565 : decode cL_law 565 = .ok (.aload_n 0, 1) := by decide +kernel
theorem dL_law_566 : decode cL_law 566 = .ok (.iload_n 3, 1) := by decide +kernel
theorem dL_law_567 : decode cL_law 567 = .ok (.iconst 3, 1) := by decide +kernel
theorem dL_law_568 : decode cL_law 568 = .ok (.iadd, 1) := by decide +kernel
theorem dL_law_569 : decode cL_law 569 = .ok (.iaload, 1) := by decide +kernel
theorem dL_law_570 : decode cL_law 570 = .ok (.invokevirtual 55, 3) := by decide +kernel
theorem dL_law_573 : decode cL_law 573 = .ok (.if_icmp .eq 980, 3) := by decide +kernel
theorem dL_law_576 : decode cL_law 576 = .ok (.iconst 0, 1) := by decide +kernel
theorem dL_law_577 : decode cL_law 577 = .ok (.ireturn, 1) := by decide +kernel
theorem dL_law_578 : decode cL_law 578 = .ok (.aload_n 1, 1) := by decide +kernel
theorem dL_law_579 : decode cL_law 579 = .ok (.aload_n 0, 1) := by decide +kernel
theorem dL_law_580 : decode cL_law 580 = .ok (.iload_n 3, 1) := by decide +kernel
theorem dL_law_581 : decode cL_law 581 = .ok (.iconst 1, 1) := by decide +kernel
theorem dL_law_582 : decode cL_law 582 = .ok (.iadd, 1) := by decide +kernel
theorem dL_law_583 : decode cL_law 583 = .ok (.iaload, 1) := by decide +kernel
theorem dL_law_584 : decode cL_law 584 = .ok (.aload_n 0, 1) := by decide +kernel
theorem dL_law_585 : decode cL_law 585 = .ok (.iload_n 3, 1) := by decide +kernel
theorem dL_law_586 : decode cL_law 586 = .ok (.iconst 2, 1) := by decide +kernel
theorem dL_law_587 : decode cL_law 587 = .ok (.iadd, 1) := by decide +kernel
theorem dL_law_588 : decode cL_law 588 = .ok (.iaload, 1) := by decide +kernel
theorem dL_law_589 : decode cL_law 589 = .ok (.invokevirtual 56, 3) := by decide +kernel
theorem dL_law_592 : decode cL_law 592 = .ok (.aload_n 2, 1) := by decide +kernel
theorem dL_law_593 : decode cL_law 593 = .ok (.aload_n 0, 1) := by decide +kernel
theorem dL_law_594 : decode cL_law 594 = .ok (.iload_n 3, 1) := by decide +kernel
theorem dL_law_595 : decode cL_law 595 = .ok (.iconst 1, 1) := by decide +kernel
theorem dL_law_596 : decode cL_law 596 = .ok (.iadd, 1) := by decide +kernel
theorem dL_law_597 : decode cL_law 597 = .ok (.iaload, 1) := by decide +kernel
theorem dL_law_598 : decode cL_law 598 = .ok (.aload_n 0, 1) := by decide +kernel
theorem dL_law_599 : decode cL_law 599 = .ok (.iload_n 3, 1) := by decide +kernel
theorem dL_law_600 : decode cL_law 600 = .ok (.iconst 2, 1) := by decide +kernel
theorem dL_law_601 : decode cL_law 601 = .ok (.iadd, 1) := by decide +kernel
theorem dL_law_602 : decode cL_law 602 = .ok (.iaload, 1) := by decide +kernel
theorem dL_law_603 : decode cL_law 603 = .ok (.invokevirtual 59, 3) := by decide +kernel
theorem dL_law_606 : decode cL_law 606 = .ok (.if_icmp .eq 947, 3) := by decide +kernel
theorem dL_law_609 : decode cL_law 609 = .ok (.iconst 0, 1) := by decide +kernel
theorem dL_law_610 : decode cL_law 610 = .ok (.ireturn, 1) := by decide +kernel
theorem dL_law_611 : decode cL_law 611 = .ok (.aload_n 1, 1) := by decide +kernel
theorem dL_law_612 : decode cL_law 612 = .ok (.aload_n 0, 1) := by decide +kernel
theorem dL_law_613 : decode cL_law 613 = .ok (.iload_n 3, 1) := by decide +kernel
theorem dL_law_614 : decode cL_law 614 = .ok (.iconst 1, 1) := by decide +kernel
theorem dL_law_615 : decode cL_law 615 = .ok (.iadd, 1) := by decide +kernel
theorem dL_law_616 : decode cL_law 616 = .ok (.iaload, 1) := by decide +kernel
theorem dL_law_617 : decode cL_law 617 = .ok (.aload_n 0, 1) := by decide +kernel
theorem dL_law_618 : decode cL_law 618 = .ok (.iload_n 3, 1) := by decide +kernel
theorem dL_law_619 : decode cL_law 619 = .ok (.iconst 2, 1) := by decide +kernel
theorem dL_law_620 : decode cL_law 620 = .ok (.iadd, 1) := by decide +kernel
theorem dL_law_621 : decode cL_law 621 = .ok (.iaload, 1) := by decide +kernel
theorem dL_law_622 : decode cL_law 622 = .ok (.invokevirtual 60, 3) := by decide +kernel
theorem dL_law_625 : decode cL_law 625 = .ok (.aload_n 2, 1) := by decide +kernel
theorem dL_law_626 : decode cL_law 626 = .ok (.aload_n 0, 1) := by decide +kernel
theorem dL_law_627 : decode cL_law 627 = .ok (.iload_n 3, 1) := by decide +kernel
theorem dL_law_628 : decode cL_law 628 = .ok (.iconst 1, 1) := by decide +kernel
theorem dL_law_629 : decode cL_law 629 = .ok (.iadd, 1) := by decide +kernel
theorem dL_law_630 : decode cL_law 630 = .ok (.iaload, 1) := by decide +kernel
theorem dL_law_631 : decode cL_law 631 = .ok (.aload_n 0, 1) := by decide +kernel
theorem dL_law_632 : decode cL_law 632 = .ok (.iload_n 3, 1) := by decide +kernel
theorem dL_law_633 : decode cL_law 633 = .ok (.iconst 2, 1) := by decide +kernel
theorem dL_law_634 : decode cL_law 634 = .ok (.iadd, 1) := by decide +kernel
theorem dL_law_635 : decode cL_law 635 = .ok (.iaload, 1) := by decide +kernel
theorem dL_law_636 : decode cL_law 636 = .ok (.invokevirtual 63, 3) := by decide +kernel
theorem dL_law_639 : decode cL_law 639 = .ok (.if_icmp .eq 914, 3) := by decide +kernel
theorem dL_law_642 : decode cL_law 642 = .ok (.iconst 0, 1) := by decide +kernel
theorem dL_law_643 : decode cL_law 643 = .ok (.ireturn, 1) := by decide +kernel
theorem dL_law_644 : decode cL_law 644 = .ok (.aload_n 1, 1) := by decide +kernel
theorem dL_law_645 : decode cL_law 645 = .ok (.aload_n 0, 1) := by decide +kernel
theorem dL_law_646 : decode cL_law 646 = .ok (.iload_n 3, 1) := by decide +kernel
theorem dL_law_647 : decode cL_law 647 = .ok (.iconst 1, 1) := by decide +kernel
theorem dL_law_648 : decode cL_law 648 = .ok (.iadd, 1) := by decide +kernel
theorem dL_law_649 : decode cL_law 649 = .ok (.iaload, 1) := by decide +kernel
theorem dL_law_650 : decode cL_law 650 = .ok (.aload_n 0, 1) := by decide +kernel
theorem dL_law_651 : decode cL_law 651 = .ok (.iload_n 3, 1) := by decide +kernel
theorem dL_law_652 : decode cL_law 652 = .ok (.iconst 2, 1) := by decide +kernel
theorem dL_law_653 : decode cL_law 653 = .ok (.iadd, 1) := by decide +kernel
theorem dL_law_654 : decode cL_law 654 = .ok (.iaload, 1) := by decide +kernel
theorem dL_law_655 : decode cL_law 655 = .ok (.invokevirtual 64, 3) := by decide +kernel
theorem dL_law_658 : decode cL_law 658 = .ok (.aload_n 2, 1) := by decide +kernel
theorem dL_law_659 : decode cL_law 659 = .ok (.aload_n 0, 1) := by decide +kernel
theorem dL_law_660 : decode cL_law 660 = .ok (.iload_n 3, 1) := by decide +kernel
theorem dL_law_661 : decode cL_law 661 = .ok (.iconst 1, 1) := by decide +kernel
theorem dL_law_662 : decode cL_law 662 = .ok (.iadd, 1) := by decide +kernel
theorem dL_law_663 : decode cL_law 663 = .ok (.iaload, 1) := by decide +kernel
theorem dL_law_664 : decode cL_law 664 = .ok (.aload_n 0, 1) := by decide +kernel
theorem dL_law_665 : decode cL_law 665 = .ok (.iload_n 3, 1) := by decide +kernel
theorem dL_law_666 : decode cL_law 666 = .ok (.iconst 2, 1) := by decide +kernel
theorem dL_law_667 : decode cL_law 667 = .ok (.iadd, 1) := by decide +kernel
theorem dL_law_668 : decode cL_law 668 = .ok (.iaload, 1) := by decide +kernel
theorem dL_law_669 : decode cL_law 669 = .ok (.invokevirtual 67, 3) := by decide +kernel
theorem dL_law_672 : decode cL_law 672 = .ok (.if_icmp .eq 881, 3) := by decide +kernel
theorem dL_law_675 : decode cL_law 675 = .ok (.iconst 0, 1) := by decide +kernel
theorem dL_law_676 : decode cL_law 676 = .ok (.ireturn, 1) := by decide +kernel
theorem dL_law_677 : decode cL_law 677 = .ok (.aload_n 1, 1) := by decide +kernel
theorem dL_law_678 : decode cL_law 678 = .ok (.aload_n 0, 1) := by decide +kernel
theorem dL_law_679 : decode cL_law 679 = .ok (.iload_n 3, 1) := by decide +kernel
theorem dL_law_680 : decode cL_law 680 = .ok (.iconst 1, 1) := by decide +kernel
theorem dL_law_681 : decode cL_law 681 = .ok (.iadd, 1) := by decide +kernel
theorem dL_law_682 : decode cL_law 682 = .ok (.iaload, 1) := by decide +kernel
theorem dL_law_683 : decode cL_law 683 = .ok (.aload_n 0, 1) := by decide +kernel
theorem dL_law_684 : decode cL_law 684 = .ok (.iload_n 3, 1) := by decide +kernel
theorem dL_law_685 : decode cL_law 685 = .ok (.iconst 2, 1) := by decide +kernel
theorem dL_law_686 : decode cL_law 686 = .ok (.iadd, 1) := by decide +kernel
theorem dL_law_687 : decode cL_law 687 = .ok (.iaload, 1) := by decide +kernel
theorem dL_law_688 : decode cL_law 688 = .ok (.invokevirtual 68, 3) := by decide +kernel
theorem dL_law_691 : decode cL_law 691 = .ok (.aload_n 2, 1) := by decide +kernel
theorem dL_law_692 : decode cL_law 692 = .ok (.aload_n 0, 1) := by decide +kernel
theorem dL_law_693 : decode cL_law 693 = .ok (.iload_n 3, 1) := by decide +kernel
theorem dL_law_694 : decode cL_law 694 = .ok (.iconst 1, 1) := by decide +kernel
theorem dL_law_695 : decode cL_law 695 = .ok (.iadd, 1) := by decide +kernel
theorem dL_law_696 : decode cL_law 696 = .ok (.iaload, 1) := by decide +kernel
theorem dL_law_697 : decode cL_law 697 = .ok (.aload_n 0, 1) := by decide +kernel
theorem dL_law_698 : decode cL_law 698 = .ok (.iload_n 3, 1) := by decide +kernel
theorem dL_law_699 : decode cL_law 699 = .ok (.iconst 2, 1) := by decide +kernel
theorem dL_law_700 : decode cL_law 700 = .ok (.iadd, 1) := by decide +kernel
theorem dL_law_701 : decode cL_law 701 = .ok (.iaload, 1) := by decide +kernel
theorem dL_law_702 : decode cL_law 702 = .ok (.invokevirtual 71, 3) := by decide +kernel
theorem dL_law_705 : decode cL_law 705 = .ok (.if_icmp .eq 848, 3) := by decide +kernel
theorem dL_law_708 : decode cL_law 708 = .ok (.iconst 0, 1) := by decide +kernel
theorem dL_law_709 : decode cL_law 709 = .ok (.ireturn, 1) := by decide +kernel
theorem dL_law_710 : decode cL_law 710 = .ok (.aload_n 1, 1) := by decide +kernel
theorem dL_law_711 : decode cL_law 711 = .ok (.aload_n 0, 1) := by decide +kernel
theorem dL_law_712 : decode cL_law 712 = .ok (.iload_n 3, 1) := by decide +kernel
theorem dL_law_713 : decode cL_law 713 = .ok (.iconst 1, 1) := by decide +kernel
theorem dL_law_714 : decode cL_law 714 = .ok (.iadd, 1) := by decide +kernel
theorem dL_law_715 : decode cL_law 715 = .ok (.iaload, 1) := by decide +kernel
theorem dL_law_716 : decode cL_law 716 = .ok (.aload_n 0, 1) := by decide +kernel
theorem dL_law_717 : decode cL_law 717 = .ok (.iload_n 3, 1) := by decide +kernel
theorem dL_law_718 : decode cL_law 718 = .ok (.iconst 2, 1) := by decide +kernel
theorem dL_law_719 : decode cL_law 719 = .ok (.iadd, 1) := by decide +kernel
theorem dL_law_720 : decode cL_law 720 = .ok (.iaload, 1) := by decide +kernel
theorem dL_law_721 : decode cL_law 721 = .ok (.aload_n 0, 1) := by decide +kernel
theorem dL_law_722 : decode cL_law 722 = .ok (.iload_n 3, 1) := by decide +kernel
theorem dL_law_723 : decode cL_law 723 = .ok (.iconst 3, 1) := by decide +kernel
theorem dL_law_724 : decode cL_law 724 = .ok (.iadd, 1) := by decide +kernel
theorem dL_law_725 : decode cL_law 725 = .ok (.iaload, 1) := by decide +kernel
theorem dL_law_726 : decode cL_law 726 = .ok (.invokevirtual 72, 3) := by decide +kernel
theorem dL_law_729 : decode cL_law 729 = .ok (.aload_n 2, 1) := by decide +kernel
theorem dL_law_730 : decode cL_law 730 = .ok (.aload_n 0, 1) := by decide +kernel
theorem dL_law_731 : decode cL_law 731 = .ok (.iload_n 3, 1) := by decide +kernel
theorem dL_law_732 : decode cL_law 732 = .ok (.iconst 1, 1) := by decide +kernel
theorem dL_law_733 : decode cL_law 733 = .ok (.iadd, 1) := by decide +kernel
theorem dL_law_734 : decode cL_law 734 = .ok (.iaload, 1) := by decide +kernel
theorem dL_law_735 : decode cL_law 735 = .ok (.aload_n 0, 1) := by decide +kernel
theorem dL_law_736 : decode cL_law 736 = .ok (.iload_n 3, 1) := by decide +kernel
theorem dL_law_737 : decode cL_law 737 = .ok (.iconst 2, 1) := by decide +kernel
theorem dL_law_738 : decode cL_law 738 = .ok (.iadd, 1) := by decide +kernel
theorem dL_law_739 : decode cL_law 739 = .ok (.iaload, 1) := by decide +kernel
theorem dL_law_740 : decode cL_law 740 = .ok (.aload_n 0, 1) := by decide +kernel
theorem dL_law_741 : decode cL_law 741 = .ok (.iload_n 3, 1) := by decide +kernel
theorem dL_law_742 : decode cL_law 742 = .ok (.iconst 3, 1) := by decide +kernel
theorem dL_law_743 : decode cL_law 743 = .ok (.iadd, 1) := by decide +kernel
theorem dL_law_744 : decode cL_law 744 = .ok (.iaload, 1) := by decide +kernel
theorem dL_law_745 : decode cL_law 745 = .ok (.invokevirtual 75, 3) := by decide +kernel
theorem dL_law_748 : decode cL_law 748 = .ok (.if_icmp .eq 805, 3) := by decide +kernel
theorem dL_law_751 : decode cL_law 751 = .ok (.iconst 0, 1) := by decide +kernel
theorem dL_law_752 : decode cL_law 752 = .ok (.ireturn, 1) := by decide +kernel
theorem dL_law_753 : decode cL_law 753 = .ok (.aload_n 1, 1) := by decide +kernel
theorem dL_law_754 : decode cL_law 754 = .ok (.aload_n 0, 1) := by decide +kernel
theorem dL_law_755 : decode cL_law 755 = .ok (.iload_n 3, 1) := by decide +kernel
theorem dL_law_756 : decode cL_law 756 = .ok (.iconst 1, 1) := by decide +kernel
theorem dL_law_757 : decode cL_law 757 = .ok (.iadd, 1) := by decide +kernel
theorem dL_law_758 : decode cL_law 758 = .ok (.iaload, 1) := by decide +kernel
theorem dL_law_759 : decode cL_law 759 = .ok (.aload_n 0, 1) := by decide +kernel
theorem dL_law_760 : decode cL_law 760 = .ok (.iload_n 3, 1) := by decide +kernel
theorem dL_law_761 : decode cL_law 761 = .ok (.iconst 2, 1) := by decide +kernel
theorem dL_law_762 : decode cL_law 762 = .ok (.iadd, 1) := by decide +kernel
theorem dL_law_763 : decode cL_law 763 = .ok (.iaload, 1) := by decide +kernel
theorem dL_law_764 : decode cL_law 764 = .ok (.invokevirtual 76, 3) := by decide +kernel
theorem dL_law_767 : decode cL_law 767 = .ok (.aload_n 2, 1) := by decide +kernel
theorem dL_law_768 : decode cL_law 768 = .ok (.aload_n 0, 1) := by decide +kernel
theorem dL_law_769 : decode cL_law 769 = .ok (.iload_n 3, 1) := by decide +kernel
theorem dL_law_770 : decode cL_law 770 = .ok (.iconst 1, 1) := by decide +kernel
theorem dL_law_771 : decode cL_law 771 = .ok (.iadd, 1) := by decide +kernel
theorem dL_law_772 : decode cL_law 772 = .ok (.iaload, 1) := by decide +kernel
theorem dL_law_773 : decode cL_law 773 = .ok (.aload_n 0, 1) := by decide +kernel
theorem dL_law_774 : decode cL_law 774 = .ok (.iload_n 3, 1) := by decide +kernel
theorem dL_law_775 : decode cL_law 775 = .ok (.iconst 2, 1) := by decide +kernel
theorem dL_law_776 : decode cL_law 776 = .ok (.iadd, 1) := by decide +kernel
theorem dL_law_777 : decode cL_law 777 = .ok (.iaload, 1) := by decide +kernel
theorem dL_law_778 : decode cL_law 778 = .ok (.invokevirtual 79, 3) := by decide +kernel
theorem dL_law_781 : decode cL_law 781 = .ok (.if_icmp .eq 772, 3) := by decide +kernel
theorem dL_law_784 : decode cL_law 784 = .ok (.iconst 0, 1) := by decide +kernel
theorem dL_law_785 : decode cL_law 785 = .ok (.ireturn, 1) := by decide +kernel
theorem dL_law_786 : decode cL_law 786 = .ok (.aload_n 1, 1) := by decide +kernel
theorem dL_law_787 : decode cL_law 787 = .ok (.aload_n 0, 1) := by decide +kernel
theorem dL_law_788 : decode cL_law 788 = .ok (.iload_n 3, 1) := by decide +kernel
theorem dL_law_789 : decode cL_law 789 = .ok (.iconst 1, 1) := by decide +kernel
theorem dL_law_790 : decode cL_law 790 = .ok (.iadd, 1) := by decide +kernel
theorem dL_law_791 : decode cL_law 791 = .ok (.iaload, 1) := by decide +kernel
theorem dL_law_792 : decode cL_law 792 = .ok (.invokevirtual 80, 3) := by decide +kernel
theorem dL_law_795 : decode cL_law 795 = .ok (.aload_n 2, 1) := by decide +kernel
theorem dL_law_796 : decode cL_law 796 = .ok (.aload_n 0, 1) := by decide +kernel
theorem dL_law_797 : decode cL_law 797 = .ok (.iload_n 3, 1) := by decide +kernel
theorem dL_law_798 : decode cL_law 798 = .ok (.iconst 1, 1) := by decide +kernel
theorem dL_law_799 : decode cL_law 799 = .ok (.iadd, 1) := by decide +kernel
theorem dL_law_800 : decode cL_law 800 = .ok (.iaload, 1) := by decide +kernel
theorem dL_law_801 : decode cL_law 801 = .ok (.invokevirtual 83, 3) := by decide +kernel
theorem dL_law_804 : decode cL_law 804 = .ok (.if_icmp .eq 749, 3) := by decide +kernel
theorem dL_law_807 : decode cL_law 807 = .ok (.iconst 0, 1) := by decide +kernel
theorem dL_law_808 : decode cL_law 808 = .ok (.ireturn, 1) := by decide +kernel
theorem dL_law_809 : decode cL_law 809 = .ok (.aload_n 1, 1) := by decide +kernel
theorem dL_law_810 : decode cL_law 810 = .ok (.aload_n 0, 1) := by decide +kernel
theorem dL_law_811 : decode cL_law 811 = .ok (.iload_n 3, 1) := by decide +kernel
theorem dL_law_812 : decode cL_law 812 = .ok (.iconst 1, 1) := by decide +kernel
theorem dL_law_813 : decode cL_law 813 = .ok (.iadd, 1) := by decide +kernel
theorem dL_law_814 : decode cL_law 814 = .ok (.iaload, 1) := by decide +kernel
theorem dL_law_815 : decode cL_law 815 = .ok (.invokevirtual 84, 3) := by decide +kernel
theorem dL_law_818 : decode cL_law 818 = .ok (.aload_n 2, 1) := by decide +kernel
theorem dL_law_819 : decode cL_law 819 = .ok (.aload_n 0, 1) := by decide +kernel
theorem dL_law_820 : decode cL_law 820 = .ok (.iload_n 3, 1) := by decide +kernel
theorem dL_law_821 : decode cL_law 821 = .ok (.iconst 1, 1) := by decide +kernel
theorem dL_law_822 : decode cL_law 822 = .ok (.iadd, 1) := by decide +kernel
theorem dL_law_823 : decode cL_law 823 = .ok (.iaload, 1) := by decide +kernel
theorem dL_law_824 : decode cL_law 824 = .ok (.invokevirtual 87, 3) := by decide +kernel
theorem dL_law_827 : decode cL_law 827 = .ok (.if_icmp .eq 726, 3) := by decide +kernel
theorem dL_law_830 : decode cL_law 830 = .ok (.iconst 0, 1) := by decide +kernel
theorem dL_law_831 : decode cL_law 831 = .ok (.ireturn, 1) := by decide +kernel
theorem dL_law_832 : decode cL_law 832 = .ok (.aload_n 1, 1) := by decide +kernel
theorem dL_law_833 : decode cL_law 833 = .ok (.aload_n 0, 1) := by decide +kernel
theorem dL_law_834 : decode cL_law 834 = .ok (.iload_n 3, 1) := by decide +kernel
theorem dL_law_835 : decode cL_law 835 = .ok (.iconst 1, 1) := by decide +kernel
theorem dL_law_836 : decode cL_law 836 = .ok (.iadd, 1) := by decide +kernel
theorem dL_law_837 : decode cL_law 837 = .ok (.iaload, 1) := by decide +kernel
theorem dL_law_838 : decode cL_law 838 = .ok (.invokevirtual 88, 3) := by decide +kernel
theorem dL_law_841 : decode cL_law 841 = .ok (.aload_n 2, 1) := by decide +kernel
theorem dL_law_842 : decode cL_law 842 = .ok (.aload_n 0, 1) := by decide +kernel
theorem dL_law_843 : decode cL_law 843 = .ok (.iload_n 3, 1) := by decide +kernel
theorem dL_law_844 : decode cL_law 844 = .ok (.iconst 1, 1) := by decide +kernel
theorem dL_law_845 : decode cL_law 845 = .ok (.iadd, 1) := by decide +kernel
theorem dL_law_846 : decode cL_law 846 = .ok (.iaload, 1) := by decide +kernel
theorem dL_law_847 : decode cL_law 847 = .ok (.invokevirtual 91, 3) := by decide +kernel
theorem dL_law_850 : decode cL_law 850 = .ok (.if_icmp .eq 703, 3) := by decide +kernel
theorem dL_law_853 : decode cL_law 853 = .ok (.iconst 0, 1) := by decide +kernel
theorem dL_law_854 : decode cL_law 854 = .ok (.ireturn, 1) := by decide +kernel
theorem dL_law_855 : decode cL_law 855 = .ok (.aload_n 1, 1) := by decide +kernel
theorem dL_law_856 : decode cL_law 856 = .ok (.aload_n 0, 1) := by decide +kernel
theorem dL_law_857 : decode cL_law 857 = .ok (.iload_n 3, 1) := by decide +kernel
theorem dL_law_858 : decode cL_law 858 = .ok (.iconst 1, 1) := by decide +kernel
theorem dL_law_859 : decode cL_law 859 = .ok (.iadd, 1) := by decide +kernel
theorem dL_law_860 : decode cL_law 860 = .ok (.iaload, 1) := by decide +kernel
theorem dL_law_861 : decode cL_law 861 = .ok (.invokevirtual 92, 3) := by decide +kernel
theorem dL_law_864 : decode cL_law 864 = .ok (.aload_n 2, 1) := by decide +kernel
theorem dL_law_865 : decode cL_law 865 = .ok (.aload_n 0, 1) := by decide +kernel
theorem dL_law_866 : decode cL_law 866 = .ok (.iload_n 3, 1) := by decide +kernel
theorem dL_law_867 : decode cL_law 867 = .ok (.iconst 1, 1) := by decide +kernel
theorem dL_law_868 : decode cL_law 868 = .ok (.iadd, 1) := by decide +kernel
theorem dL_law_869 : decode cL_law 869 = .ok (.iaload, 1) := by decide +kernel
theorem dL_law_870 : decode cL_law 870 = .ok (.invokevirtual 95, 3) := by decide +kernel
theorem dL_law_873 : decode cL_law 873 = .ok (.if_icmp .eq 680, 3) := by decide +kernel
theorem dL_law_876 : decode cL_law 876 = .ok (.iconst 0, 1) := by decide +kernel
theorem dL_law_877 : decode cL_law 877 = .ok (.ireturn, 1) := by decide +kernel
theorem dL_law_878 : decode cL_law 878 = .ok (.aload_n 1, 1) := by decide +kernel
theorem dL_law_879 : decode cL_law 879 = .ok (.invokevirtual 96, 3) := by decide +kernel
theorem dL_law_882 : decode cL_law 882 = .ok (.aload_n 2, 1) := by decide +kernel
theorem dL_law_883 : decode cL_law 883 = .ok (.invokevirtual 100, 3) := by decide +kernel
theorem dL_law_886 : decode cL_law 886 = .ok (.if_icmp .eq 667, 3) := by decide +kernel
theorem dL_law_889 : decode cL_law 889 = .ok (.iconst 0, 1) := by decide +kernel
theorem dL_law_890 : decode cL_law 890 = .ok (.ireturn, 1) := by decide +kernel
theorem dL_law_891 : decode cL_law 891 = .ok (.aload_n 1, 1) := by decide +kernel
theorem dL_law_892 : decode cL_law 892 = .ok (.aload_n 0, 1) := by decide +kernel
theorem dL_law_893 : decode cL_law 893 = .ok (.iload_n 3, 1) := by decide +kernel
theorem dL_law_894 : decode cL_law 894 = .ok (.iconst 1, 1) := by decide +kernel
theorem dL_law_895 : decode cL_law 895 = .ok (.iadd, 1) := by decide +kernel
theorem dL_law_896 : decode cL_law 896 = .ok (.iaload, 1) := by decide +kernel
theorem dL_law_897 : decode cL_law 897 = .ok (.invokevirtual 101, 3) := by decide +kernel
theorem dL_law_900 : decode cL_law 900 = .ok (.aload_n 2, 1) := by decide +kernel
theorem dL_law_901 : decode cL_law 901 = .ok (.aload_n 0, 1) := by decide +kernel
theorem dL_law_902 : decode cL_law 902 = .ok (.iload_n 3, 1) := by decide +kernel
theorem dL_law_903 : decode cL_law 903 = .ok (.iconst 1, 1) := by decide +kernel
theorem dL_law_904 : decode cL_law 904 = .ok (.iadd, 1) := by decide +kernel
theorem dL_law_905 : decode cL_law 905 = .ok (.iaload, 1) := by decide +kernel
theorem dL_law_906 : decode cL_law 906 = .ok (.invokevirtual 104, 3) := by decide +kernel
theorem dL_law_909 : decode cL_law 909 = .ok (.if_icmp .eq 644, 3) := by decide +kernel
theorem dL_law_912 : decode cL_law 912 = .ok (.iconst 0, 1) := by decide +kernel
theorem dL_law_913 : decode cL_law 913 = .ok (.ireturn, 1) := by decide +kernel
theorem dL_law_914 : decode cL_law 914 = .ok (.aload_n 1, 1) := by decide +kernel
theorem dL_law_915 : decode cL_law 915 = .ok (.aload_n 0, 1) := by decide +kernel
theorem dL_law_916 : decode cL_law 916 = .ok (.iload_n 3, 1) := by decide +kernel
theorem dL_law_917 : decode cL_law 917 = .ok (.iconst 1, 1) := by decide +kernel
theorem dL_law_918 : decode cL_law 918 = .ok (.iadd, 1) := by decide +kernel
theorem dL_law_919 : decode cL_law 919 = .ok (.iaload, 1) := by decide +kernel
theorem dL_law_920 : decode cL_law 920 = .ok (.invokevirtual 105, 3) := by decide +kernel
theorem dL_law_923 : decode cL_law 923 = .ok (.aload_n 2, 1) := by decide +kernel
theorem dL_law_924 : decode cL_law 924 = .ok (.aload_n 0, 1) := by decide +kernel
theorem dL_law_925 : decode cL_law 925 = .ok (.iload_n 3, 1) := by decide +kernel
theorem dL_law_926 : decode cL_law 926 = .ok (.iconst 1, 1) := by decide +kernel
theorem dL_law_927 : decode cL_law 927 = .ok (.iadd, 1) := by decide +kernel
theorem dL_law_928 : decode cL_law 928 = .ok (.iaload, 1) := by decide +kernel
theorem dL_law_929 : decode cL_law 929 = .ok (.invokevirtual 108, 3) := by decide +kernel
theorem dL_law_932 : decode cL_law 932 = .ok (.if_icmp .eq 621, 3) := by decide +kernel
theorem dL_law_935 : decode cL_law 935 = .ok (.iconst 0, 1) := by decide +kernel
theorem dL_law_936 : decode cL_law 936 = .ok (.ireturn, 1) := by decide +kernel
theorem dL_law_937 : decode cL_law 937 = .ok (.aload_n 1, 1) := by decide +kernel
theorem dL_law_938 : decode cL_law 938 = .ok (.aload_n 0, 1) := by decide +kernel
theorem dL_law_939 : decode cL_law 939 = .ok (.iload_n 3, 1) := by decide +kernel
theorem dL_law_940 : decode cL_law 940 = .ok (.iconst 1, 1) := by decide +kernel
theorem dL_law_941 : decode cL_law 941 = .ok (.iadd, 1) := by decide +kernel
theorem dL_law_942 : decode cL_law 942 = .ok (.iaload, 1) := by decide +kernel
theorem dL_law_943 : decode cL_law 943 = .ok (.invokevirtual 109, 3) := by decide +kernel
theorem dL_law_946 : decode cL_law 946 = .ok (.aload_n 2, 1) := by decide +kernel
theorem dL_law_947 : decode cL_law 947 = .ok (.aload_n 0, 1) := by decide +kernel
theorem dL_law_948 : decode cL_law 948 = .ok (.iload_n 3, 1) := by decide +kernel
theorem dL_law_949 : decode cL_law 949 = .ok (.iconst 1, 1) := by decide +kernel
theorem dL_law_950 : decode cL_law 950 = .ok (.iadd, 1) := by decide +kernel
theorem dL_law_951 : decode cL_law 951 = .ok (.iaload, 1) := by decide +kernel
theorem dL_law_952 : decode cL_law 952 = .ok (.invokevirtual 112, 3) := by decide +kernel
theorem dL_law_955 : decode cL_law 955 = .ok (.if_icmp .eq 598, 3) := by decide +kernel
theorem dL_law_958 : decode cL_law 958 = .ok (.iconst 0, 1) := by decide +kernel
theorem dL_law_959 : decode cL_law 959 = .ok (.ireturn, 1) := by decide +kernel
theorem dL_law_960 : decode cL_law 960 = .ok (.aload_n 1, 1) := by decide +kernel
theorem dL_law_961 : decode cL_law 961 = .ok (.invokevirtual 113, 3) := by decide +kernel
theorem dL_law_964 : decode cL_law 964 = .ok (.aload_n 2, 1) := by decide +kernel
theorem dL_law_965 : decode cL_law 965 = .ok (.invokevirtual 116, 3) := by decide +kernel
theorem dL_law_968 : decode cL_law 968 = .ok (.if_icmp .eq 585, 3) := by decide +kernel
theorem dL_law_971 : decode cL_law 971 = .ok (.iconst 0, 1) := by decide +kernel
theorem dL_law_972 : decode cL_law 972 = .ok (.ireturn, 1) := by decide +kernel
theorem dL_law_973 : decode cL_law 973 = .ok (.aload_n 1, 1) := by decide +kernel
theorem dL_law_974 : decode cL_law 974 = .ok (.invokevirtual 117, 3) := by decide +kernel
theorem dL_law_977 : decode cL_law 977 = .ok (.aload_n 2, 1) := by decide +kernel
theorem dL_law_978 : decode cL_law 978 = .ok (.invokevirtual 120, 3) := by decide +kernel
theorem dL_law_981 : decode cL_law 981 = .ok (.if_icmp .eq 572, 3) := by decide +kernel
theorem dL_law_984 : decode cL_law 984 = .ok (.iconst 0, 1) := by decide +kernel
theorem dL_law_985 : decode cL_law 985 = .ok (.ireturn, 1) := by decide +kernel
theorem dL_law_986 : decode cL_law 986 = .ok (.aload_n 1, 1) := by decide +kernel
theorem dL_law_987 : decode cL_law 987 = .ok (.aload_n 0, 1) := by decide +kernel
theorem dL_law_988 : decode cL_law 988 = .ok (.iload_n 3, 1) := by decide +kernel
theorem dL_law_989 : decode cL_law 989 = .ok (.iconst 1, 1) := by decide +kernel
theorem dL_law_990 : decode cL_law 990 = .ok (.iadd, 1) := by decide +kernel
theorem dL_law_991 : decode cL_law 991 = .ok (.iaload, 1) := by decide +kernel
theorem dL_law_992 : decode cL_law 992 = .ok (.aload_n 0, 1) := by decide +kernel
theorem dL_law_993 : decode cL_law 993 = .ok (.iload_n 3, 1) := by decide +kernel
theorem dL_law_994 : decode cL_law 994 = .ok (.iconst 2, 1) := by decide +kernel
theorem dL_law_995 : decode cL_law 995 = .ok (.iadd, 1) := by decide +kernel
theorem dL_law_996 : decode cL_law 996 = .ok (.iaload, 1) := by decide +kernel
theorem dL_law_997 : decode cL_law 997 = .ok (.aload_n 0, 1) := by decide +kernel
theorem dL_law_998 : decode cL_law 998 = .ok (.iload_n 3, 1) := by decide +kernel
theorem dL_law_999 : decode cL_law 999 = .ok (.iconst 3, 1) := by decide +kernel
theorem dL_law_1000 : decode cL_law 1000 = .ok (.iadd, 1) := by decide +kernel
theorem dL_law_1001 : decode cL_law 1001 = .ok (.iaload, 1) := by decide +kernel
theorem dL_law_1002 : decode cL_law 1002 = .ok (.invokevirtual 121, 3) := by decide +kernel
theorem dL_law_1005 : decode cL_law 1005 = .ok (.aload_n 2, 1) := by decide +kernel
theorem dL_law_1006 : decode cL_law 1006 = .ok (.aload_n 0, 1) := by decide +kernel
theorem dL_law_1007 : decode cL_law 1007 = .ok (.iload_n 3, 1) := by decide +kernel
theorem dL_law_1008 : decode cL_law 1008 = .ok (.iconst 1, 1) := by decide +kernel
theorem dL_law_1009 : decode cL_law 1009 = .ok (.iadd, 1) := by decide +kernel
theorem dL_law_1010 : decode cL_law 1010 = .ok (.iaload, 1) := by decide +kernel
theorem dL_law_1011 : decode cL_law 1011 = .ok (.aload_n 0, 1) := by decide +kernel
theorem dL_law_1012 : decode cL_law 1012 = .ok (.iload_n 3, 1) := by decide +kernel
theorem dL_law_1013 : decode cL_law 1013 = .ok (.iconst 2, 1) := by decide +kernel
theorem dL_law_1014 : decode cL_law 1014 = .ok (.iadd, 1) := by decide +kernel
theorem dL_law_1015 : decode cL_law 1015 = .ok (.iaload, 1) := by decide +kernel
theorem dL_law_1016 : decode cL_law 1016 = .ok (.aload_n 0, 1) := by decide +kernel
theorem dL_law_1017 : decode cL_law 1017 = .ok (.iload_n 3, 1) := by decide +kernel
theorem dL_law_1018 : decode cL_law 1018 = .ok (.iconst 3, 1) := by decide +kernel
theorem dL_law_1019 : decode cL_law 1019 = .ok (.iadd, 1) := by decide +kernel
theorem dL_law_1020 : decode cL_law 1020 = .ok (.iaload, 1) := by decide +kernel
theorem dL_law_1021 : decode cL_law 1021 = .ok (.invokevirtual 124, 3) := by decide +kernel
theorem dL_law_1024 : decode cL_law 1024 = .ok (.if_icmp .eq 529, 3) := by decide +kernel
theorem dL_law_1027 : decode cL_law 1027 = .ok (.iconst 0, 1) := by decide +kernel
theorem dL_law_1028 : decode cL_law 1028 = .ok (.ireturn, 1) := by decide +kernel
theorem dL_law_1029 : decode cL_law 1029 = .ok (.aload_n 1, 1) := by decide +kernel
theorem dL_law_1030 : decode cL_law 1030 = .ok (.aload_n 0, 1) := by decide +kernel
theorem dL_law_1031 : decode cL_law 1031 = .ok (.iload_n 3, 1) := by decide +kernel
theorem dL_law_1032 : decode cL_law 1032 = .ok (.iconst 1, 1) := by decide +kernel
theorem dL_law_1033 : decode cL_law 1033 = .ok (.iadd, 1) := by decide +kernel
theorem dL_law_1034 : decode cL_law 1034 = .ok (.iaload, 1) := by decide +kernel
theorem dL_law_1035 : decode cL_law 1035 = .ok (.invokevirtual 125, 3) := by decide +kernel
theorem dL_law_1038 : decode cL_law 1038 = .ok (.aload_n 2, 1) := by decide +kernel
theorem dL_law_1039 : decode cL_law 1039 = .ok (.aload_n 0, 1) := by decide +kernel
theorem dL_law_1040 : decode cL_law 1040 = .ok (.iload_n 3, 1) := by decide +kernel
theorem dL_law_1041 : decode cL_law 1041 = .ok (.iconst 1, 1) := by decide +kernel
theorem dL_law_1042 : decode cL_law 1042 = .ok (.iadd, 1) := by decide +kernel
theorem dL_law_1043 : decode cL_law 1043 = .ok (.iaload, 1) := by decide +kernel
theorem dL_law_1044 : decode cL_law 1044 = .ok (.invokevirtual 128, 3) := by decide +kernel
theorem dL_law_1047 : decode cL_law 1047 = .ok (.if_icmp .eq 506, 3) := by decide +kernel
theorem dL_law_1050 : decode cL_law 1050 = .ok (.iconst 0, 1) := by decide +kernel
theorem dL_law_1051 : decode cL_law 1051 = .ok (.ireturn, 1) := by decide +kernel
theorem dL_law_1052 : decode cL_law 1052 = .ok (.aload_n 1, 1) := by decide +kernel
theorem dL_law_1053 : decode cL_law 1053 = .ok (.invokevirtual 129, 3) := by decide +kernel
theorem dL_law_1056 : decode cL_law 1056 = .ok (.aload_n 2, 1) := by decide +kernel
theorem dL_law_1057 : decode cL_law 1057 = .ok (.invokevirtual 132, 3) := by decide +kernel
theorem dL_law_1060 : decode cL_law 1060 = .ok (.if_icmp .eq 493, 3) := by decide +kernel
theorem dL_law_1063 : decode cL_law 1063 = .ok (.iconst 0, 1) := by decide +kernel
theorem dL_law_1064 : decode cL_law 1064 = .ok (.ireturn, 1) := by decide +kernel
theorem dL_law_1065 : decode cL_law 1065 = .ok (.aload_n 1, 1) := by decide +kernel
theorem dL_law_1066 : decode cL_law 1066 = .ok (.aload_n 0, 1) := by decide +kernel
theorem dL_law_1067 : decode cL_law 1067 = .ok (.iload_n 3, 1) := by decide +kernel
theorem dL_law_1068 : decode cL_law 1068 = .ok (.iconst 1, 1) := by decide +kernel
theorem dL_law_1069 : decode cL_law 1069 = .ok (.iadd, 1) := by decide +kernel
theorem dL_law_1070 : decode cL_law 1070 = .ok (.iaload, 1) := by decide +kernel
theorem dL_law_1071 : decode cL_law 1071 = .ok (.aload_n 0, 1) := by decide +kernel
theorem dL_law_1072 : decode cL_law 1072 = .ok (.iload_n 3, 1) := by decide +kernel
theorem dL_law_1073 : decode cL_law 1073 = .ok (.iconst 2, 1) := by decide +kernel
theorem dL_law_1074 : decode cL_law 1074 = .ok (.iadd, 1) := by decide +kernel
theorem dL_law_1075 : decode cL_law 1075 = .ok (.iaload, 1) := by decide +kernel
theorem dL_law_1076 : decode cL_law 1076 = .ok (.invokevirtual 133, 3) := by decide +kernel
theorem dL_law_1079 : decode cL_law 1079 = .ok (.aload_n 2, 1) := by decide +kernel
theorem dL_law_1080 : decode cL_law 1080 = .ok (.aload_n 0, 1) := by decide +kernel
theorem dL_law_1081 : decode cL_law 1081 = .ok (.iload_n 3, 1) := by decide +kernel
theorem dL_law_1082 : decode cL_law 1082 = .ok (.iconst 1, 1) := by decide +kernel
theorem dL_law_1083 : decode cL_law 1083 = .ok (.iadd, 1) := by decide +kernel
theorem dL_law_1084 : decode cL_law 1084 = .ok (.iaload, 1) := by decide +kernel
theorem dL_law_1085 : decode cL_law 1085 = .ok (.aload_n 0, 1) := by decide +kernel
theorem dL_law_1086 : decode cL_law 1086 = .ok (.iload_n 3, 1) := by decide +kernel
theorem dL_law_1087 : decode cL_law 1087 = .ok (.iconst 2, 1) := by decide +kernel
theorem dL_law_1088 : decode cL_law 1088 = .ok (.iadd, 1) := by decide +kernel
theorem dL_law_1089 : decode cL_law 1089 = .ok (.iaload, 1) := by decide +kernel
theorem dL_law_1090 : decode cL_law 1090 = .ok (.invokevirtual 136, 3) := by decide +kernel
theorem dL_law_1093 : decode cL_law 1093 = .ok (.if_icmp .eq 460, 3) := by decide +kernel
theorem dL_law_1096 : decode cL_law 1096 = .ok (.iconst 0, 1) := by decide +kernel
theorem dL_law_1097 : decode cL_law 1097 = .ok (.ireturn, 1) := by decide +kernel
theorem dL_law_1098 : decode cL_law 1098 = .ok (.aload_n 1, 1) := by decide +kernel
theorem dL_law_1099 : decode cL_law 1099 = .ok (.aload_n 0, 1) := by decide +kernel
theorem dL_law_1100 : decode cL_law 1100 = .ok (.iload_n 3, 1) := by decide +kernel
theorem dL_law_1101 : decode cL_law 1101 = .ok (.iconst 1, 1) := by decide +kernel
theorem dL_law_1102 : decode cL_law 1102 = .ok (.iadd, 1) := by decide +kernel
theorem dL_law_1103 : decode cL_law 1103 = .ok (.iaload, 1) := by decide +kernel
theorem dL_law_1104 : decode cL_law 1104 = .ok (.invokevirtual 137, 3) := by decide +kernel
theorem dL_law_1107 : decode cL_law 1107 = .ok (.aload_n 2, 1) := by decide +kernel
theorem dL_law_1108 : decode cL_law 1108 = .ok (.aload_n 0, 1) := by decide +kernel
theorem dL_law_1109 : decode cL_law 1109 = .ok (.iload_n 3, 1) := by decide +kernel
theorem dL_law_1110 : decode cL_law 1110 = .ok (.iconst 1, 1) := by decide +kernel
theorem dL_law_1111 : decode cL_law 1111 = .ok (.iadd, 1) := by decide +kernel
theorem dL_law_1112 : decode cL_law 1112 = .ok (.iaload, 1) := by decide +kernel
theorem dL_law_1113 : decode cL_law 1113 = .ok (.invokevirtual 140, 3) := by decide +kernel
theorem dL_law_1116 : decode cL_law 1116 = .ok (.if_icmp .eq 437, 3) := by decide +kernel
theorem dL_law_1119 : decode cL_law 1119 = .ok (.iconst 0, 1) := by decide +kernel
theorem dL_law_1120 : decode cL_law 1120 = .ok (.ireturn, 1) := by decide +kernel
theorem dL_law_1121 : decode cL_law 1121 = .ok (.aload_n 1, 1) := by decide +kernel
theorem dL_law_1122 : decode cL_law 1122 = .ok (.aload_n 0, 1) := by decide +kernel
theorem dL_law_1123 : decode cL_law 1123 = .ok (.iload_n 3, 1) := by decide +kernel
theorem dL_law_1124 : decode cL_law 1124 = .ok (.iconst 1, 1) := by decide +kernel
theorem dL_law_1125 : decode cL_law 1125 = .ok (.iadd, 1) := by decide +kernel
theorem dL_law_1126 : decode cL_law 1126 = .ok (.iaload, 1) := by decide +kernel
theorem dL_law_1127 : decode cL_law 1127 = .ok (.aload_n 0, 1) := by decide +kernel
theorem dL_law_1128 : decode cL_law 1128 = .ok (.iload_n 3, 1) := by decide +kernel
theorem dL_law_1129 : decode cL_law 1129 = .ok (.iconst 2, 1) := by decide +kernel
theorem dL_law_1130 : decode cL_law 1130 = .ok (.iadd, 1) := by decide +kernel
theorem dL_law_1131 : decode cL_law 1131 = .ok (.iaload, 1) := by decide +kernel
theorem dL_law_1132 : decode cL_law 1132 = .ok (.aload_n 0, 1) := by decide +kernel
theorem dL_law_1133 : decode cL_law 1133 = .ok (.iload_n 3, 1) := by decide +kernel
theorem dL_law_1134 : decode cL_law 1134 = .ok (.iconst 3, 1) := by decide +kernel
theorem dL_law_1135 : decode cL_law 1135 = .ok (.iadd, 1) := by decide +kernel
theorem dL_law_1136 : decode cL_law 1136 = .ok (.iaload, 1) := by decide +kernel
theorem dL_law_1137 : decode cL_law 1137 = .ok (.invokevirtual 141, 3) := by decide +kernel
theorem dL_law_1140 : decode cL_law 1140 = .ok (.aload_n 2, 1) := by decide +kernel
theorem dL_law_1141 : decode cL_law 1141 = .ok (.aload_n 0, 1) := by decide +kernel
theorem dL_law_1142 : decode cL_law 1142 = .ok (.iload_n 3, 1) := by decide +kernel
theorem dL_law_1143 : decode cL_law 1143 = .ok (.iconst 1, 1) := by decide +kernel
theorem dL_law_1144 : decode cL_law 1144 = .ok (.iadd, 1) := by decide +kernel
theorem dL_law_1145 : decode cL_law 1145 = .ok (.iaload, 1) := by decide +kernel
theorem dL_law_1146 : decode cL_law 1146 = .ok (.aload_n 0, 1) := by decide +kernel
theorem dL_law_1147 : decode cL_law 1147 = .ok (.iload_n 3, 1) := by decide +kernel
theorem dL_law_1148 : decode cL_law 1148 = .ok (.iconst 2, 1) := by decide +kernel
theorem dL_law_1149 : decode cL_law 1149 = .ok (.iadd, 1) := by decide +kernel
theorem dL_law_1150 : decode cL_law 1150 = .ok (.iaload, 1) := by decide +kernel
theorem dL_law_1151 : decode cL_law 1151 = .ok (.aload_n 0, 1) := by decide +kernel
theorem dL_law_1152 : decode cL_law 1152 = .ok (.iload_n 3, 1) := by decide +kernel
theorem dL_law_1153 : decode cL_law 1153 = .ok (.iconst 3, 1) := by decide +kernel
theorem dL_law_1154 : decode cL_law 1154 = .ok (.iadd, 1) := by decide +kernel
theorem dL_law_1155 : decode cL_law 1155 = .ok (.iaload, 1) := by decide +kernel
theorem dL_law_1156 : decode cL_law 1156 = .ok (.invokevirtual 144, 3) := by decide +kernel
theorem dL_law_1159 : decode cL_law 1159 = .ok (.if_icmp .eq 394, 3) := by decide +kernel
theorem dL_law_1162 : decode cL_law 1162 = .ok (.iconst 0, 1) := by decide +kernel
theorem dL_law_1163 : decode cL_law 1163 = .ok (.ireturn, 1) := by decide +kernel
theorem dL_law_1164 : decode cL_law 1164 = .ok (.aload_n 1, 1) := by decide +kernel
theorem dL_law_1165 : decode cL_law 1165 = .ok (.aload_n 0, 1) := by decide +kernel
theorem dL_law_1166 : decode cL_law 1166 = .ok (.iload_n 3, 1) := by decide +kernel
theorem dL_law_1167 : decode cL_law 1167 = .ok (.iconst 1, 1) := by decide +kernel
theorem dL_law_1168 : decode cL_law 1168 = .ok (.iadd, 1) := by decide +kernel
theorem dL_law_1169 : decode cL_law 1169 = .ok (.iaload, 1) := by decide +kernel
theorem dL_law_1170 : decode cL_law 1170 = .ok (.aload_n 0, 1) := by decide +kernel
theorem dL_law_1171 : decode cL_law 1171 = .ok (.iload_n 3, 1) := by decide +kernel
theorem dL_law_1172 : decode cL_law 1172 = .ok (.iconst 2, 1) := by decide +kernel
theorem dL_law_1173 : decode cL_law 1173 = .ok (.iadd, 1) := by decide +kernel
theorem dL_law_1174 : decode cL_law 1174 = .ok (.iaload, 1) := by decide +kernel
theorem dL_law_1175 : decode cL_law 1175 = .ok (.aload_n 0, 1) := by decide +kernel
theorem dL_law_1176 : decode cL_law 1176 = .ok (.iload_n 3, 1) := by decide +kernel
theorem dL_law_1177 : decode cL_law 1177 = .ok (.iconst 3, 1) := by decide +kernel
theorem dL_law_1178 : decode cL_law 1178 = .ok (.iadd, 1) := by decide +kernel
theorem dL_law_1179 : decode cL_law 1179 = .ok (.iaload, 1) := by decide +kernel
theorem dL_law_1180 : decode cL_law 1180 = .ok (.invokevirtual 145, 3) := by decide +kernel
theorem dL_law_1183 : decode cL_law 1183 = .ok (.aload_n 2, 1) := by decide +kernel
theorem dL_law_1184 : decode cL_law 1184 = .ok (.aload_n 0, 1) := by decide +kernel
theorem dL_law_1185 : decode cL_law 1185 = .ok (.iload_n 3, 1) := by decide +kernel
theorem dL_law_1186 : decode cL_law 1186 = .ok (.iconst 1, 1) := by decide +kernel
theorem dL_law_1187 : decode cL_law 1187 = .ok (.iadd, 1) := by decide +kernel
theorem dL_law_1188 : decode cL_law 1188 = .ok (.iaload, 1) := by decide +kernel
theorem dL_law_1189 : decode cL_law 1189 = .ok (.aload_n 0, 1) := by decide +kernel
theorem dL_law_1190 : decode cL_law 1190 = .ok (.iload_n 3, 1) := by decide +kernel
theorem dL_law_1191 : decode cL_law 1191 = .ok (.iconst 2, 1) := by decide +kernel
theorem dL_law_1192 : decode cL_law 1192 = .ok (.iadd, 1) := by decide +kernel
theorem dL_law_1193 : decode cL_law 1193 = .ok (.iaload, 1) := by decide +kernel
theorem dL_law_1194 : decode cL_law 1194 = .ok (.aload_n 0, 1) := by decide +kernel
theorem dL_law_1195 : decode cL_law 1195 = .ok (.iload_n 3, 1) := by decide +kernel
theorem dL_law_1196 : decode cL_law 1196 = .ok (.iconst 3, 1) := by decide +kernel
theorem dL_law_1197 : decode cL_law 1197 = .ok (.iadd, 1) := by decide +kernel
theorem dL_law_1198 : decode cL_law 1198 = .ok (.iaload, 1) := by decide +kernel
theorem dL_law_1199 : decode cL_law 1199 = .ok (.invokevirtual 148, 3) := by decide +kernel
theorem dL_law_1202 : decode cL_law 1202 = .ok (.if_icmp .eq 351, 3) := by decide +kernel
theorem dL_law_1205 : decode cL_law 1205 = .ok (.iconst 0, 1) := by decide +kernel
theorem dL_law_1206 : decode cL_law 1206 = .ok (.ireturn, 1) := by decide +kernel
theorem dL_law_1207 : decode cL_law 1207 = .ok (.aload_n 1, 1) := by decide +kernel
theorem dL_law_1208 : decode cL_law 1208 = .ok (.aload_n 0, 1) := by decide +kernel
theorem dL_law_1209 : decode cL_law 1209 = .ok (.iload_n 3, 1) := by decide +kernel
theorem dL_law_1210 : decode cL_law 1210 = .ok (.iconst 1, 1) := by decide +kernel
theorem dL_law_1211 : decode cL_law 1211 = .ok (.iadd, 1) := by decide +kernel
theorem dL_law_1212 : decode cL_law 1212 = .ok (.iaload, 1) := by decide +kernel
theorem dL_law_1213 : decode cL_law 1213 = .ok (.invokevirtual 149, 3) := by decide +kernel
theorem dL_law_1216 : decode cL_law 1216 = .ok (.aload_n 2, 1) := by decide +kernel
theorem dL_law_1217 : decode cL_law 1217 = .ok (.aload_n 0, 1) := by decide +kernel
theorem dL_law_1218 : decode cL_law 1218 = .ok (.iload_n 3, 1) := by decide +kernel
theorem dL_law_1219 : decode cL_law 1219 = .ok (.iconst 1, 1) := by decide +kernel
theorem dL_law_1220 : decode cL_law 1220 = .ok (.iadd, 1) := by decide +kernel
theorem dL_law_1221 : decode cL_law 1221 = .ok (.iaload, 1) := by decide +kernel
theorem dL_law_1222 : decode cL_law 1222 = .ok (.invokevirtual 152, 3) := by decide +kernel
theorem dL_law_1225 : decode cL_law 1225 = .ok (.if_icmp .eq 328, 3) := by decide +kernel
theorem dL_law_1228 : decode cL_law 1228 = .ok (.iconst 0, 1) := by decide +kernel
theorem dL_law_1229 : decode cL_law 1229 = .ok (.ireturn, 1) := by decide +kernel
theorem dL_law_1230 : decode cL_law 1230 = .ok (.aload_n 1, 1) := by decide +kernel
theorem dL_law_1231 : decode cL_law 1231 = .ok (.aload_n 0, 1) := by decide +kernel
theorem dL_law_1232 : decode cL_law 1232 = .ok (.iload_n 3, 1) := by decide +kernel
theorem dL_law_1233 : decode cL_law 1233 = .ok (.iconst 1, 1) := by decide +kernel
theorem dL_law_1234 : decode cL_law 1234 = .ok (.iadd, 1) := by decide +kernel
theorem dL_law_1235 : decode cL_law 1235 = .ok (.iaload, 1) := by decide +kernel
theorem dL_law_1236 : decode cL_law 1236 = .ok (.invokevirtual 153, 3) := by decide +kernel
theorem dL_law_1239 : decode cL_law 1239 = .ok (.aload_n 2, 1) := by decide +kernel
theorem dL_law_1240 : decode cL_law 1240 = .ok (.aload_n 0, 1) := by decide +kernel
theorem dL_law_1241 : decode cL_law 1241 = .ok (.iload_n 3, 1) := by decide +kernel
theorem dL_law_1242 : decode cL_law 1242 = .ok (.iconst 1, 1) := by decide +kernel
theorem dL_law_1243 : decode cL_law 1243 = .ok (.iadd, 1) := by decide +kernel
theorem dL_law_1244 : decode cL_law 1244 = .ok (.iaload, 1) := by decide +kernel
theorem dL_law_1245 : decode cL_law 1245 = .ok (.invokevirtual 156, 3) := by decide +kernel
theorem dL_law_1248 : decode cL_law 1248 = .ok (.if_icmp .eq 305, 3) := by decide +kernel
theorem dL_law_1251 : decode cL_law 1251 = .ok (.iconst 0, 1) := by decide +kernel
theorem dL_law_1252 : decode cL_law 1252 = .ok (.ireturn, 1) := by decide +kernel
theorem dL_law_1253 : decode cL_law 1253 = .ok (.aload_n 1, 1) := by decide +kernel
theorem dL_law_1254 : decode cL_law 1254 = .ok (.aload_n 0, 1) := by decide +kernel
theorem dL_law_1255 : decode cL_law 1255 = .ok (.iload_n 3, 1) := by decide +kernel
theorem dL_law_1256 : decode cL_law 1256 = .ok (.iconst 1, 1) := by decide +kernel
theorem dL_law_1257 : decode cL_law 1257 = .ok (.iadd, 1) := by decide +kernel
theorem dL_law_1258 : decode cL_law 1258 = .ok (.iaload, 1) := by decide +kernel
theorem dL_law_1259 : decode cL_law 1259 = .ok (.aload_n 0, 1) := by decide +kernel
theorem dL_law_1260 : decode cL_law 1260 = .ok (.iload_n 3, 1) := by decide +kernel
theorem dL_law_1261 : decode cL_law 1261 = .ok (.iconst 2, 1) := by decide +kernel
theorem dL_law_1262 : decode cL_law 1262 = .ok (.iadd, 1) := by decide +kernel
theorem dL_law_1263 : decode cL_law 1263 = .ok (.iaload, 1) := by decide +kernel
theorem dL_law_1264 : decode cL_law 1264 = .ok (.aload_n 0, 1) := by decide +kernel
theorem dL_law_1265 : decode cL_law 1265 = .ok (.iload_n 3, 1) := by decide +kernel
theorem dL_law_1266 : decode cL_law 1266 = .ok (.iconst 3, 1) := by decide +kernel
theorem dL_law_1267 : decode cL_law 1267 = .ok (.iadd, 1) := by decide +kernel
theorem dL_law_1268 : decode cL_law 1268 = .ok (.iaload, 1) := by decide +kernel
theorem dL_law_1269 : decode cL_law 1269 = .ok (.aload_n 0, 1) := by decide +kernel
theorem dL_law_1270 : decode cL_law 1270 = .ok (.iload_n 3, 1) := by decide +kernel
theorem dL_law_1271 : decode cL_law 1271 = .ok (.iconst 4, 1) := by decide +kernel
theorem dL_law_1272 : decode cL_law 1272 = .ok (.iadd, 1) := by decide +kernel
theorem dL_law_1273 : decode cL_law 1273 = .ok (.iaload, 1) := by decide +kernel
theorem dL_law_1274 : decode cL_law 1274 = .ok (.aload_n 0, 1) := by decide +kernel
theorem dL_law_1275 : decode cL_law 1275 = .ok (.iload_n 3, 1) := by decide +kernel
theorem dL_law_1276 : decode cL_law 1276 = .ok (.iconst 5, 1) := by decide +kernel
theorem dL_law_1277 : decode cL_law 1277 = .ok (.iadd, 1) := by decide +kernel
theorem dL_law_1278 : decode cL_law 1278 = .ok (.iaload, 1) := by decide +kernel
theorem dL_law_1279 : decode cL_law 1279 = .ok (.invokevirtual 157, 3) := by decide +kernel
theorem dL_law_1282 : decode cL_law 1282 = .ok (.aload_n 2, 1) := by decide +kernel
theorem dL_law_1283 : decode cL_law 1283 = .ok (.aload_n 0, 1) := by decide +kernel
theorem dL_law_1284 : decode cL_law 1284 = .ok (.iload_n 3, 1) := by decide +kernel
theorem dL_law_1285 : decode cL_law 1285 = .ok (.iconst 1, 1) := by decide +kernel
theorem dL_law_1286 : decode cL_law 1286 = .ok (.iadd, 1) := by decide +kernel
theorem dL_law_1287 : decode cL_law 1287 = .ok (.iaload, 1) := by decide +kernel
theorem dL_law_1288 : decode cL_law 1288 = .ok (.aload_n 0, 1) := by decide +kernel
theorem dL_law_1289 : decode cL_law 1289 = .ok (.iload_n 3, 1) := by decide +kernel
theorem dL_law_1290 : decode cL_law 1290 = .ok (.iconst 2, 1) := by decide +kernel
theorem dL_law_1291 : decode cL_law 1291 = .ok (.iadd, 1) := by decide +kernel
theorem dL_law_1292 : decode cL_law 1292 = .ok (.iaload, 1) := by decide +kernel
theorem dL_law_1293 : decode cL_law 1293 = .ok (.aload_n 0, 1) := by decide +kernel
theorem dL_law_1294 : decode cL_law 1294 = .ok (.iload_n 3, 1) := by decide +kernel
theorem dL_law_1295 : decode cL_law 1295 = .ok (.iconst 3, 1) := by decide +kernel
theorem dL_law_1296 : decode cL_law 1296 = .ok (.iadd, 1) := by decide +kernel
theorem dL_law_1297 : decode cL_law 1297 = .ok (.iaload, 1) := by decide +kernel
theorem dL_law_1298 : decode cL_law 1298 = .ok (.aload_n 0, 1) := by decide +kernel
theorem dL_law_1299 : decode cL_law 1299 = .ok (.iload_n 3, 1) := by decide +kernel
theorem dL_law_1300 : decode cL_law 1300 = .ok (.iconst 4, 1) := by decide +kernel
theorem dL_law_1301 : decode cL_law 1301 = .ok (.iadd, 1) := by decide +kernel
theorem dL_law_1302 : decode cL_law 1302 = .ok (.iaload, 1) := by decide +kernel
theorem dL_law_1303 : decode cL_law 1303 = .ok (.aload_n 0, 1) := by decide +kernel
theorem dL_law_1304 : decode cL_law 1304 = .ok (.iload_n 3, 1) := by decide +kernel
theorem dL_law_1305 : decode cL_law 1305 = .ok (.iconst 5, 1) := by decide +kernel
theorem dL_law_1306 : decode cL_law 1306 = .ok (.iadd, 1) := by decide +kernel
theorem dL_law_1307 : decode cL_law 1307 = .ok (.iaload, 1) := by decide +kernel
theorem dL_law_1308 : decode cL_law 1308 = .ok (.invokevirtual 161, 3) := by decide +kernel
theorem dL_law_1311 : decode cL_law 1311 = .ok (.if_icmp .eq 242, 3) := by decide +kernel
theorem dL_law_1314 : decode cL_law 1314 = .ok (.iconst 0, 1) := by decide +kernel
theorem dL_law_1315 : decode cL_law 1315 = .ok (.ireturn, 1) := by decide +kernel
theorem dL_law_1316 : decode cL_law 1316 = .ok (.aload_n 1, 1) := by decide +kernel
theorem dL_law_1317 : decode cL_law 1317 = .ok (.aload_n 0, 1) := by decide +kernel
theorem dL_law_1318 : decode cL_law 1318 = .ok (.iload_n 3, 1) := by decide +kernel
theorem dL_law_1319 : decode cL_law 1319 = .ok (.iconst 1, 1) := by decide +kernel
theorem dL_law_1320 : decode cL_law 1320 = .ok (.iadd, 1) := by decide +kernel
theorem dL_law_1321 : decode cL_law 1321 = .ok (.iaload, 1) := by decide +kernel
theorem dL_law_1322 : decode cL_law 1322 = .ok (.aload_n 0, 1) := by decide +kernel
theorem dL_law_1323 : decode cL_law 1323 = .ok (.iload_n 3, 1) := by decide +kernel
theorem dL_law_1324 : decode cL_law 1324 = .ok (.iconst 2, 1) := by decide +kernel
theorem dL_law_1325 : decode cL_law 1325 = .ok (.iadd, 1) := by decide +kernel
theorem dL_law_1326 : decode cL_law 1326 = .ok (.iaload, 1) := by decide +kernel
theorem dL_law_1327 : decode cL_law 1327 = .ok (.aload_n 0, 1) := by decide +kernel
theorem dL_law_1328 : decode cL_law 1328 = .ok (.iload_n 3, 1) := by decide +kernel
theorem dL_law_1329 : decode cL_law 1329 = .ok (.iconst 3, 1) := by decide +kernel
theorem dL_law_1330 : decode cL_law 1330 = .ok (.iadd, 1) := by decide +kernel
theorem dL_law_1331 : decode cL_law 1331 = .ok (.iaload, 1) := by decide +kernel
theorem dL_law_1332 : decode cL_law 1332 = .ok (.invokevirtual 162, 3) := by decide +kernel
theorem dL_law_1335 : decode cL_law 1335 = .ok (.aload_n 2, 1) := by decide +kernel
theorem dL_law_1336 : decode cL_law 1336 = .ok (.aload_n 0, 1) := by decide +kernel
theorem dL_law_1337 : decode cL_law 1337 = .ok (.iload_n 3, 1) := by decide +kernel
theorem dL_law_1338 : decode cL_law 1338 = .ok (.iconst 1, 1) := by decide +kernel
theorem dL_law_1339 : decode cL_law 1339 = .ok (.iadd, 1) := by decide +kernel
theorem dL_law_1340 : decode cL_law 1340 = .ok (.iaload, 1) := by decide +kernel
theorem dL_law_1341 : decode cL_law 1341 = .ok (.aload_n 0, 1) := by decide +kernel
theorem dL_law_1342 : decode cL_law 1342 = .ok (.iload_n 3, 1) := by decide +kernel
theorem dL_law_1343 : decode cL_law 1343 = .ok (.iconst 2, 1) := by decide +kernel
theorem dL_law_1344 : decode cL_law 1344 = .ok (.iadd, 1) := by decide +kernel
theorem dL_law_1345 : decode cL_law 1345 = .ok (.iaload, 1) := by decide +kernel
theorem dL_law_1346 : decode cL_law 1346 = .ok (.aload_n 0, 1) := by decide +kernel
theorem dL_law_1347 : decode cL_law 1347 = .ok (.iload_n 3, 1) := by decide +kernel
theorem dL_law_1348 : decode cL_law 1348 = .ok (.iconst 3, 1) := by decide +kernel
theorem dL_law_1349 : decode cL_law 1349 = .ok (.iadd, 1) := by decide +kernel
theorem dL_law_1350 : decode cL_law 1350 = .ok (.iaload, 1) := by decide +kernel
theorem dL_law_1351 : decode cL_law 1351 = .ok (.invokevirtual 165, 3) := by decide +kernel
theorem dL_law_1354 : decode cL_law 1354 = .ok (.if_icmp .eq 199, 3) := by decide +kernel
theorem dL_law_1357 : decode cL_law 1357 = .ok (.iconst 0, 1) := by decide +kernel
theorem dL_law_1358 : decode cL_law 1358 = .ok (.ireturn, 1) := by decide +kernel
theorem dL_law_1359 : decode cL_law 1359 = .ok (.aload_n 1, 1) := by decide +kernel
theorem dL_law_1360 : decode cL_law 1360 = .ok (.aload_n 0, 1) := by decide +kernel
theorem dL_law_1361 : decode cL_law 1361 = .ok (.iload_n 3, 1) := by decide +kernel
theorem dL_law_1362 : decode cL_law 1362 = .ok (.iconst 1, 1) := by decide +kernel
theorem dL_law_1363 : decode cL_law 1363 = .ok (.iadd, 1) := by decide +kernel
theorem dL_law_1364 : decode cL_law 1364 = .ok (.iaload, 1) := by decide +kernel
theorem dL_law_1365 : decode cL_law 1365 = .ok (.aload_n 0, 1) := by decide +kernel
theorem dL_law_1366 : decode cL_law 1366 = .ok (.iload_n 3, 1) := by decide +kernel
theorem dL_law_1367 : decode cL_law 1367 = .ok (.iconst 2, 1) := by decide +kernel
theorem dL_law_1368 : decode cL_law 1368 = .ok (.iadd, 1) := by decide +kernel
theorem dL_law_1369 : decode cL_law 1369 = .ok (.iaload, 1) := by decide +kernel
theorem dL_law_1370 : decode cL_law 1370 = .ok (.invokevirtual 166, 3) := by decide +kernel
theorem dL_law_1373 : decode cL_law 1373 = .ok (.aload_n 2, 1) := by decide +kernel
theorem dL_law_1374 : decode cL_law 1374 = .ok (.aload_n 0, 1) := by decide +kernel
theorem dL_law_1375 : decode cL_law 1375 = .ok (.iload_n 3, 1) := by decide +kernel
theorem dL_law_1376 : decode cL_law 1376 = .ok (.iconst 1, 1) := by decide +kernel
theorem dL_law_1377 : decode cL_law 1377 = .ok (.iadd, 1) := by decide +kernel
theorem dL_law_1378 : decode cL_law 1378 = .ok (.iaload, 1) := by decide +kernel
theorem dL_law_1379 : decode cL_law 1379 = .ok (.aload_n 0, 1) := by decide +kernel
theorem dL_law_1380 : decode cL_law 1380 = .ok (.iload_n 3, 1) := by decide +kernel
theorem dL_law_1381 : decode cL_law 1381 = .ok (.iconst 2, 1) := by decide +kernel
theorem dL_law_1382 : decode cL_law 1382 = .ok (.iadd, 1) := by decide +kernel
theorem dL_law_1383 : decode cL_law 1383 = .ok (.iaload, 1) := by decide +kernel
theorem dL_law_1384 : decode cL_law 1384 = .ok (.invokevirtual 169, 3) := by decide +kernel
theorem dL_law_1387 : decode cL_law 1387 = .ok (.if_icmp .eq 166, 3) := by decide +kernel
theorem dL_law_1390 : decode cL_law 1390 = .ok (.iconst 0, 1) := by decide +kernel
theorem dL_law_1391 : decode cL_law 1391 = .ok (.ireturn, 1) := by decide +kernel
theorem dL_law_1392 : decode cL_law 1392 = .ok (.aload_n 1, 1) := by decide +kernel
theorem dL_law_1393 : decode cL_law 1393 = .ok (.aload_n 0, 1) := by decide +kernel
theorem dL_law_1394 : decode cL_law 1394 = .ok (.iload_n 3, 1) := by decide +kernel
theorem dL_law_1395 : decode cL_law 1395 = .ok (.iconst 1, 1) := by decide +kernel
theorem dL_law_1396 : decode cL_law 1396 = .ok (.iadd, 1) := by decide +kernel
theorem dL_law_1397 : decode cL_law 1397 = .ok (.iaload, 1) := by decide +kernel
theorem dL_law_1398 : decode cL_law 1398 = .ok (.aload_n 0, 1) := by decide +kernel
theorem dL_law_1399 : decode cL_law 1399 = .ok (.iload_n 3, 1) := by decide +kernel
theorem dL_law_1400 : decode cL_law 1400 = .ok (.iconst 2, 1) := by decide +kernel
theorem dL_law_1401 : decode cL_law 1401 = .ok (.iadd, 1) := by decide +kernel
theorem dL_law_1402 : decode cL_law 1402 = .ok (.iaload, 1) := by decide +kernel
theorem dL_law_1403 : decode cL_law 1403 = .ok (.invokevirtual 170, 3) := by decide +kernel
theorem dL_law_1406 : decode cL_law 1406 = .ok (.aload_n 2, 1) := by decide +kernel
theorem dL_law_1407 : decode cL_law 1407 = .ok (.aload_n 0, 1) := by decide +kernel
theorem dL_law_1408 : decode cL_law 1408 = .ok (.iload_n 3, 1) := by decide +kernel
theorem dL_law_1409 : decode cL_law 1409 = .ok (.iconst 1, 1) := by decide +kernel
theorem dL_law_1410 : decode cL_law 1410 = .ok (.iadd, 1) := by decide +kernel
theorem dL_law_1411 : decode cL_law 1411 = .ok (.iaload, 1) := by decide +kernel
theorem dL_law_1412 : decode cL_law 1412 = .ok (.aload_n 0, 1) := by decide +kernel
theorem dL_law_1413 : decode cL_law 1413 = .ok (.iload_n 3, 1) := by decide +kernel
theorem dL_law_1414 : decode cL_law 1414 = .ok (.iconst 2, 1) := by decide +kernel
theorem dL_law_1415 : decode cL_law 1415 = .ok (.iadd, 1) := by decide +kernel
theorem dL_law_1416 : decode cL_law 1416 = .ok (.iaload, 1) := by decide +kernel
theorem dL_law_1417 : decode cL_law 1417 = .ok (.invokevirtual 173, 3) := by decide +kernel
theorem dL_law_1420 : decode cL_law 1420 = .ok (.if_icmp .eq 133, 3) := by decide +kernel
theorem dL_law_1423 : decode cL_law 1423 = .ok (.iconst 0, 1) := by decide +kernel
theorem dL_law_1424 : decode cL_law 1424 = .ok (.ireturn, 1) := by decide +kernel
theorem dL_law_1425 : decode cL_law 1425 = .ok (.aload_n 1, 1) := by decide +kernel
theorem dL_law_1426 : decode cL_law 1426 = .ok (.aload_n 0, 1) := by decide +kernel
theorem dL_law_1427 : decode cL_law 1427 = .ok (.iload_n 3, 1) := by decide +kernel
theorem dL_law_1428 : decode cL_law 1428 = .ok (.iconst 1, 1) := by decide +kernel
theorem dL_law_1429 : decode cL_law 1429 = .ok (.iadd, 1) := by decide +kernel
theorem dL_law_1430 : decode cL_law 1430 = .ok (.iaload, 1) := by decide +kernel
theorem dL_law_1431 : decode cL_law 1431 = .ok (.aload_n 0, 1) := by decide +kernel
theorem dL_law_1432 : decode cL_law 1432 = .ok (.iload_n 3, 1) := by decide +kernel
theorem dL_law_1433 : decode cL_law 1433 = .ok (.iconst 2, 1) := by decide +kernel
theorem dL_law_1434 : decode cL_law 1434 = .ok (.iadd, 1) := by decide +kernel
theorem dL_law_1435 : decode cL_law 1435 = .ok (.iaload, 1) := by decide +kernel
theorem dL_law_1436 : decode cL_law 1436 = .ok (.invokevirtual 174, 3) := by decide +kernel
theorem dL_law_1439 : decode cL_law 1439 = .ok (.aload_n 2, 1) := by decide +kernel
theorem dL_law_1440 : decode cL_law 1440 = .ok (.aload_n 0, 1) := by decide +kernel
theorem dL_law_1441 : decode cL_law 1441 = .ok (.iload_n 3, 1) := by decide +kernel
theorem dL_law_1442 : decode cL_law 1442 = .ok (.iconst 1, 1) := by decide +kernel
theorem dL_law_1443 : decode cL_law 1443 = .ok (.iadd, 1) := by decide +kernel
theorem dL_law_1444 : decode cL_law 1444 = .ok (.iaload, 1) := by decide +kernel
theorem dL_law_1445 : decode cL_law 1445 = .ok (.aload_n 0, 1) := by decide +kernel
theorem dL_law_1446 : decode cL_law 1446 = .ok (.iload_n 3, 1) := by decide +kernel
theorem dL_law_1447 : decode cL_law 1447 = .ok (.iconst 2, 1) := by decide +kernel
theorem dL_law_1448 : decode cL_law 1448 = .ok (.iadd, 1) := by decide +kernel
theorem dL_law_1449 : decode cL_law 1449 = .ok (.iaload, 1) := by decide +kernel
theorem dL_law_1450 : decode cL_law 1450 = .ok (.invokevirtual 177, 3) := by decide +kernel
theorem dL_law_1453 : decode cL_law 1453 = .ok (.if_icmp .eq 100, 3) := by decide +kernel
theorem dL_law_1456 : decode cL_law 1456 = .ok (.iconst 0, 1) := by decide +kernel
theorem dL_law_1457 : decode cL_law 1457 = .ok (.ireturn, 1) := by decide +kernel
theorem dL_law_1458 : decode cL_law 1458 = .ok (.aload_n 1, 1) := by decide +kernel
theorem dL_law_1459 : decode cL_law 1459 = .ok (.aload_n 0, 1) := by decide +kernel
theorem dL_law_1460 : decode cL_law 1460 = .ok (.iload_n 3, 1) := by decide +kernel
theorem dL_law_1461 : decode cL_law 1461 = .ok (.iconst 1, 1) := by decide +kernel
theorem dL_law_1462 : decode cL_law 1462 = .ok (.iadd, 1) := by decide +kernel
theorem dL_law_1463 : decode cL_law 1463 = .ok (.iaload, 1) := by decide +kernel
theorem dL_law_1464 : decode cL_law 1464 = .ok (.invokevirtual 178, 3) := by decide +kernel
theorem dL_law_1467 : decode cL_law 1467 = .ok (.aload_n 2, 1) := by decide +kernel
theorem dL_law_1468 : decode cL_law 1468 = .ok (.aload_n 0, 1) := by decide +kernel
theorem dL_law_1469 : decode cL_law 1469 = .ok (.iload_n 3, 1) := by decide +kernel
theorem dL_law_1470 : decode cL_law 1470 = .ok (.iconst 1, 1) := by decide +kernel
theorem dL_law_1471 : decode cL_law 1471 = .ok (.iadd, 1) := by decide +kernel
theorem dL_law_1472 : decode cL_law 1472 = .ok (.iaload, 1) := by decide +kernel
theorem dL_law_1473 : decode cL_law 1473 = .ok (.invokevirtual 181, 3) := by decide +kernel
theorem dL_law_1476 : decode cL_law 1476 = .ok (.if_icmp .eq 77, 3) := by decide +kernel
theorem dL_law_1479 : decode cL_law 1479 = .ok (.iconst 0, 1) := by decide +kernel
theorem dL_law_1480 : decode cL_law 1480 = .ok (.ireturn, 1) := by decide +kernel
theorem dL_law_1481 : decode cL_law 1481 = .ok (.aload_n 1, 1) := by decide +kernel
theorem dL_law_1482 : decode cL_law 1482 = .ok (.aload_n 0, 1) := by decide +kernel
theorem dL_law_1483 : decode cL_law 1483 = .ok (.iload_n 3, 1) := by decide +kernel
theorem dL_law_1484 : decode cL_law 1484 = .ok (.iconst 1, 1) := by decide +kernel
theorem dL_law_1485 : decode cL_law 1485 = .ok (.iadd, 1) := by decide +kernel
theorem dL_law_1486 : decode cL_law 1486 = .ok (.iaload, 1) := by decide +kernel
theorem dL_law_1487 : decode cL_law 1487 = .ok (.invokevirtual 182, 3) := by decide +kernel
theorem dL_law_1490 : decode cL_law 1490 = .ok (.aload_n 2, 1) := by decide +kernel
theorem dL_law_1491 : decode cL_law 1491 = .ok (.aload_n 0, 1) := by decide +kernel
theorem dL_law_1492 : decode cL_law 1492 = .ok (.iload_n 3, 1) := by decide +kernel
theorem dL_law_1493 : decode cL_law 1493 = .ok (.iconst 1, 1) := by decide +kernel
theorem dL_law_1494 : decode cL_law 1494 = .ok (.iadd, 1) := by decide +kernel
theorem dL_law_1495 : decode cL_law 1495 = .ok (.iaload, 1) := by decide +kernel
theorem dL_law_1496 : decode cL_law 1496 = .ok (.invokevirtual 185, 3) := by decide +kernel
theorem dL_law_1499 : decode cL_law 1499 = .ok (.if_icmp .eq 54, 3) := by decide +kernel
theorem dL_law_1502 : decode cL_law 1502 = .ok (.iconst 0, 1) := by decide +kernel
theorem dL_law_1503 : decode cL_law 1503 = .ok (.ireturn, 1) := by decide +kernel
theorem dL_law_1504 : decode cL_law 1504 = .ok (.aload_n 1, 1) := by decide +kernel
theorem dL_law_1505 : decode cL_law 1505 = .ok (.invokevirtual 186, 3) := by decide +kernel
theorem dL_law_1508 : decode cL_law 1508 = .ok (.aload_n 2, 1) := by decide +kernel
theorem dL_law_1509 : decode cL_law 1509 = .ok (.invokevirtual 189, 3) := by decide +kernel
theorem dL_law_1512 : decode cL_law 1512 = .ok (.if_icmp .eq 41, 3) := by decide +kernel
theorem dL_law_1515 : decode cL_law 1515 = .ok (.iconst 0, 1) := by decide +kernel
theorem dL_law_1516 : decode cL_law 1516 = .ok (.ireturn, 1) := by decide +kernel
theorem dL_law_1517 : decode cL_law 1517 = .ok (.aload_n 1, 1) := by decide +kernel
theorem dL_law_1518 : decode cL_law 1518 = .ok (.invokevirtual 190, 3) := by decide +kernel
theorem dL_law_1521 : decode cL_law 1521 = .ok (.aload_n 2, 1) := by decide +kernel
theorem dL_law_1522 : decode cL_law 1522 = .ok (.invokevirtual 193, 3) := by decide +kernel
theorem dL_law_1525 : decode cL_law 1525 = .ok (.if_icmp .eq 28, 3) := by decide +kernel
theorem dL_law_1528 : decode cL_law 1528 = .ok (.iconst 0, 1) := by decide +kernel
theorem dL_law_1529 : decode cL_law 1529 = .ok (.ireturn, 1) := by decide +kernel
theorem dL_law_1530 : decode cL_law 1530 = .ok (.aload_n 1, 1) := by decide +kernel
theorem dL_law_1531 : decode cL_law 1531 = .ok (.aload_n 0, 1) := by decide +kernel
theorem dL_law_1532 : decode cL_law 1532 = .ok (.iload_n 3, 1) := by decide +kernel
theorem dL_law_1533 : decode cL_law 1533 = .ok (.iconst 1, 1) := by decide +kernel
theorem dL_law_1534 : decode cL_law 1534 = .ok (.iadd, 1) := by decide +kernel
theorem dL_law_1535 : decode cL_law 1535 = .ok (.iaload, 1) := by decide +kernel
theorem dL_law_1536 : decode cL_law 1536 = .ok (.invokevirtual 194, 3) := by decide +kernel
theorem dL_law_1539 : decode cL_law 1539 = .ok (.aload_n 2, 1) := by decide +kernel
theorem dL_law_1540 : decode cL_law 1540 = .ok (.aload_n 0, 1) := by decide +kernel
theorem dL_law_1541 : decode cL_law 1541 = .ok (.iload_n 3, 1) := by decide +kernel
theorem dL_law_1542 : decode cL_law 1542 = .ok (.iconst 1, 1) := by decide +kernel
theorem dL_law_1543 : decode cL_law 1543 = .ok (.iadd, 1) := by decide +kernel
theorem dL_law_1544 : decode cL_law 1544 = .ok (.iaload, 1) := by decide +kernel
theorem dL_law_1545 : decode cL_law 1545 = .ok (.invokevirtual 197, 3) := by decide +kernel
theorem dL_law_1548 : decode cL_law 1548 = .ok (.if_icmp .eq 5, 3) := by decide +kernel
theorem dL_law_1551 : decode cL_law 1551 = .ok (.iconst 0, 1) := by decide +kernel
theorem dL_law_1552 : decode cL_law 1552 = .ok (.ireturn, 1) := by decide +kernel
theorem dL_law_1553 : decode cL_law 1553 = .ok (.iinc 3 6, 3) := by decide +kernel
theorem dL_law_1556 : decode cL_law 1556 = .ok (.goto (-1538), 3) := by decide +kernel
theorem dL_law_1559 : decode cL_law 1559 = .ok (.iconst 1, 1) := by decide +kernel
theorem dL_law_1560 : decode cL_law 1560 = .ok (.ireturn, 1) := by decide +kernel
