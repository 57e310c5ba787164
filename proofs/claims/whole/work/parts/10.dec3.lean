/-! decode rows (written by wip/whole/gen02.py) -/
theorem dd_Mo_fresh_0 : decode cc_Mo_fresh 0 = .ok (.aload_n 0, 1) := by decide +kernel
theorem dd_Mo_fresh_1 : decode cc_Mo_fresh 1 = .ok (.getfield 68, 3) := by decide +kernel
theorem dd_Mo_fresh_4 : decode cc_Mo_fresh 4 = .ok (.iload_n 1, 1) := by decide +kernel
theorem dd_Mo_fresh_5 : decode cc_Mo_fresh 5 = .ok (.iconst 0, 1) := by decide +kernel
theorem dd_Mo_fresh_6 : decode cc_Mo_fresh 6 = .ok (.iastore, 1) := by decide +kernel
theorem dd_Mo_fresh_7 : decode cc_Mo_fresh 7 = .ok (.aload_n 0, 1) := by decide +kernel
theorem dd_Mo_fresh_8 : decode cc_Mo_fresh 8 = .ok (.getfield 71, 3) := by decide +kernel
theorem dd_Mo_fresh_11 : decode cc_Mo_fresh 11 = .ok (.iload_n 1, 1) := by decide +kernel
theorem dd_Mo_fresh_12 : decode cc_Mo_fresh 12 = .ok (.iconst 0, 1) := by decide +kernel
theorem dd_Mo_fresh_13 : decode cc_Mo_fresh 13 = .ok (.iastore, 1) := by decide +kernel
theorem dd_Mo_fresh_14 : decode cc_Mo_fresh 14 = .ok (.aload_n 0, 1) := by decide +kernel
theorem dd_Mo_fresh_15 : decode cc_Mo_fresh 15 = .ok (.getfield 74, 3) := by decide +kernel
theorem dd_Mo_fresh_18 : decode cc_Mo_fresh 18 = .ok (.iload_n 1, 1) := by decide +kernel
theorem dd_Mo_fresh_19 : decode cc_Mo_fresh 19 = .ok (.iconst 0, 1) := by decide +kernel
theorem dd_Mo_fresh_20 : decode cc_Mo_fresh 20 = .ok (.iastore, 1) := by decide +kernel
theorem dd_Mo_fresh_21 : decode cc_Mo_fresh 21 = .ok (.aload_n 0, 1) := by decide +kernel
theorem dd_Mo_fresh_22 : decode cc_Mo_fresh 22 = .ok (.getfield 92, 3) := by decide +kernel
theorem dd_Mo_fresh_25 : decode cc_Mo_fresh 25 = .ok (.iload_n 1, 1) := by decide +kernel
theorem dd_Mo_fresh_26 : decode cc_Mo_fresh 26 = .ok (.iconst 0, 1) := by decide +kernel
theorem dd_Mo_fresh_27 : decode cc_Mo_fresh 27 = .ok (.iastore, 1) := by decide +kernel
theorem dd_Mo_fresh_28 : decode cc_Mo_fresh 28 = .ok (.iconst 0, 1) := by decide +kernel
theorem dd_Mo_fresh_29 : decode cc_Mo_fresh 29 = .ok (.istore_n 2, 1) := by decide +kernel
theorem dd_Mo_fresh_30 : decode cc_Mo_fresh 30 = .ok (.iload_n 2, 1) := by decide +kernel
theorem dd_Mo_fresh_31 : decode cc_Mo_fresh 31 = .ok (.bipush 60, 2) := by decide +kernel
theorem dd_Mo_fresh_33 : decode cc_Mo_fresh 33 = .ok (.if_icmp .ge 21, 3) := by decide +kernel
theorem dd_Mo_fresh_36 : decode cc_Mo_fresh 36 = .ok (.aload_n 0, 1) := by decide +kernel
theorem dd_Mo_fresh_37 : decode cc_Mo_fresh 37 = .ok (.getfield 77, 3) := by decide +kernel
theorem dd_Mo_fresh_40 : decode cc_Mo_fresh 40 = .ok (.bipush 60, 2) := by decide +kernel
theorem dd_Mo_fresh_42 : decode cc_Mo_fresh 42 = .ok (.iload_n 1, 1) := by decide +kernel
theorem dd_Mo_fresh_43 : decode cc_Mo_fresh 43 = .ok (.imul, 1) := by decide +kernel
theorem dd_Mo_fresh_44 : decode cc_Mo_fresh 44 = .ok (.iload_n 2, 1) := by decide +kernel
theorem dd_Mo_fresh_45 : decode cc_Mo_fresh 45 = .ok (.iadd, 1) := by decide +kernel
theorem dd_Mo_fresh_46 : decode cc_Mo_fresh 46 = .ok (.iconst 0, 1) := by decide +kernel
theorem dd_Mo_fresh_47 : decode cc_Mo_fresh 47 = .ok (.iastore, 1) := by decide +kernel
theorem dd_Mo_fresh_48 : decode cc_Mo_fresh 48 = .ok (.iinc 2 1, 3) := by decide +kernel
theorem dd_Mo_fresh_51 : decode cc_Mo_fresh 51 = .ok (.goto (-21), 3) := by decide +kernel
theorem dd_Mo_fresh_54 : decode cc_Mo_fresh 54 = .ok (.iconst 0, 1) := by decide +kernel
theorem dd_Mo_fresh_55 : decode cc_Mo_fresh 55 = .ok (.istore_n 2, 1) := by decide +kernel
theorem dd_Mo_fresh_56 : decode cc_Mo_fresh 56 = .ok (.iload_n 2, 1) := by decide +kernel
theorem dd_Mo_fresh_57 : decode cc_Mo_fresh 57 = .ok (.bipush 90, 2) := by decide +kernel
theorem dd_Mo_fresh_59 : decode cc_Mo_fresh 59 = .ok (.if_icmp .ge 45, 3) := by decide +kernel
theorem dd_Mo_fresh_62 : decode cc_Mo_fresh 62 = .ok (.aload_n 0, 1) := by decide +kernel
theorem dd_Mo_fresh_63 : decode cc_Mo_fresh 63 = .ok (.getfield 80, 3) := by decide +kernel
theorem dd_Mo_fresh_66 : decode cc_Mo_fresh 66 = .ok (.bipush 90, 2) := by decide +kernel
theorem dd_Mo_fresh_68 : decode cc_Mo_fresh 68 = .ok (.iload_n 1, 1) := by decide +kernel
theorem dd_Mo_fresh_69 : decode cc_Mo_fresh 69 = .ok (.imul, 1) := by decide +kernel
theorem dd_Mo_fresh_70 : decode cc_Mo_fresh 70 = .ok (.iload_n 2, 1) := by decide +kernel
theorem dd_Mo_fresh_71 : decode cc_Mo_fresh 71 = .ok (.iadd, 1) := by decide +kernel
theorem dd_Mo_fresh_72 : decode cc_Mo_fresh 72 = .ok (.iconst 0, 1) := by decide +kernel
theorem dd_Mo_fresh_73 : decode cc_Mo_fresh 73 = .ok (.iastore, 1) := by decide +kernel
theorem dd_Mo_fresh_74 : decode cc_Mo_fresh 74 = .ok (.aload_n 0, 1) := by decide +kernel
theorem dd_Mo_fresh_75 : decode cc_Mo_fresh 75 = .ok (.getfield 83, 3) := by decide +kernel
theorem dd_Mo_fresh_78 : decode cc_Mo_fresh 78 = .ok (.bipush 90, 2) := by decide +kernel
theorem dd_Mo_fresh_80 : decode cc_Mo_fresh 80 = .ok (.iload_n 1, 1) := by decide +kernel
theorem dd_Mo_fresh_81 : decode cc_Mo_fresh 81 = .ok (.imul, 1) := by decide +kernel
theorem dd_Mo_fresh_82 : decode cc_Mo_fresh 82 = .ok (.iload_n 2, 1) := by decide +kernel
theorem dd_Mo_fresh_83 : decode cc_Mo_fresh 83 = .ok (.iadd, 1) := by decide +kernel
theorem dd_Mo_fresh_84 : decode cc_Mo_fresh 84 = .ok (.iconst 0, 1) := by decide +kernel
theorem dd_Mo_fresh_85 : decode cc_Mo_fresh 85 = .ok (.iastore, 1) := by decide +kernel
theorem dd_Mo_fresh_86 : decode cc_Mo_fresh 86 = .ok (.aload_n 0, 1) := by decide +kernel
theorem dd_Mo_fresh_87 : decode cc_Mo_fresh 87 = .ok (.getfield 86, 3) := by decide +kernel
theorem dd_Mo_fresh_90 : decode cc_Mo_fresh 90 = .ok (.bipush 90, 2) := by decide +kernel
theorem dd_Mo_fresh_92 : decode cc_Mo_fresh 92 = .ok (.iload_n 1, 1) := by decide +kernel
theorem dd_Mo_fresh_93 : decode cc_Mo_fresh 93 = .ok (.imul, 1) := by decide +kernel
theorem dd_Mo_fresh_94 : decode cc_Mo_fresh 94 = .ok (.iload_n 2, 1) := by decide +kernel
theorem dd_Mo_fresh_95 : decode cc_Mo_fresh 95 = .ok (.iadd, 1) := by decide +kernel
theorem dd_Mo_fresh_96 : decode cc_Mo_fresh 96 = .ok (.iconst 0, 1) := by decide +kernel
theorem dd_Mo_fresh_97 : decode cc_Mo_fresh 97 = .ok (.bastore, 1) := by decide +kernel
theorem dd_Mo_fresh_98 : decode cc_Mo_fresh 98 = .ok (.iinc 2 1, 3) := by decide +kernel
theorem dd_Mo_fresh_101 : decode cc_Mo_fresh 101 = .ok (.goto (-45), 3) := by decide +kernel
theorem dd_Mo_fresh_104 : decode cc_Mo_fresh 104 = .ok (.iconst 0, 1) := by decide +kernel
theorem dd_Mo_fresh_105 : decode cc_Mo_fresh 105 = .ok (.istore_n 2, 1) := by decide +kernel
theorem dd_Mo_fresh_106 : decode cc_Mo_fresh 106 = .ok (.iload_n 2, 1) := by decide +kernel
theorem dd_Mo_fresh_107 : decode cc_Mo_fresh 107 = .ok (.iconst 4, 1) := by decide +kernel
theorem dd_Mo_fresh_108 : decode cc_Mo_fresh 108 = .ok (.if_icmp .ge 21, 3) := by decide +kernel
theorem dd_Mo_fresh_111 : decode cc_Mo_fresh 111 = .ok (.aload_n 0, 1) := by decide +kernel
theorem dd_Mo_fresh_112 : decode cc_Mo_fresh 112 = .ok (.getfield 95, 3) := by decide +kernel
theorem dd_Mo_fresh_115 : decode cc_Mo_fresh 115 = .ok (.iconst 4, 1) := by decide +kernel
theorem dd_Mo_fresh_116 : decode cc_Mo_fresh 116 = .ok (.iload_n 1, 1) := by decide +kernel
theorem dd_Mo_fresh_117 : decode cc_Mo_fresh 117 = .ok (.imul, 1) := by decide +kernel
theorem dd_Mo_fresh_118 : decode cc_Mo_fresh 118 = .ok (.iload_n 2, 1) := by decide +kernel
theorem dd_Mo_fresh_119 : decode cc_Mo_fresh 119 = .ok (.iadd, 1) := by decide +kernel
theorem dd_Mo_fresh_120 : decode cc_Mo_fresh 120 = .ok (.bipush 100, 2) := by decide +kernel
theorem dd_Mo_fresh_122 : decode cc_Mo_fresh 122 = .ok (.iastore, 1) := by decide +kernel
theorem dd_Mo_fresh_123 : decode cc_Mo_fresh 123 = .ok (.iinc 2 1, 3) := by decide +kernel
theorem dd_Mo_fresh_126 : decode cc_Mo_fresh 126 = .ok (.goto (-20), 3) := by decide +kernel
theorem dd_Mo_fresh_129 : decode cc_Mo_fresh 129 = .ok (.return_, 1) := by decide +kernel
theorem dd_Mo_thrown_0 : decode cc_Mo_thrown 0 = .ok (.aload_n 0, 1) := by decide +kernel
theorem dd_Mo_thrown_1 : decode cc_Mo_thrown 1 = .ok (.getfield 105, 3) := by decide +kernel
theorem dd_Mo_thrown_4 : decode cc_Mo_thrown 4 = .ok (.ireturn, 1) := by decide +kernel
theorem dd_Mo_submit_0 : decode cc_Mo_submit 0 = .ok (.aload_n 0, 1) := by decide +kernel
theorem dd_Mo_submit_1 : decode cc_Mo_submit 1 = .ok (.iload_n 1, 1) := by decide +kernel
theorem dd_Mo_submit_2 : decode cc_Mo_submit 2 = .ok (.invokevirtual 190, 3) := by decide +kernel
theorem dd_Mo_submit_5 : decode cc_Mo_submit 5 = .ok (.ifCond .ne 5, 3) := by decide +kernel
theorem dd_Mo_submit_8 : decode cc_Mo_submit 8 = .ok (.iconst 0, 1) := by decide +kernel
theorem dd_Mo_submit_9 : decode cc_Mo_submit 9 = .ok (.ireturn, 1) := by decide +kernel
theorem dd_Mo_submit_10 : decode cc_Mo_submit 10 = .ok (.aload_n 0, 1) := by decide +kernel
theorem dd_Mo_submit_11 : decode cc_Mo_submit 11 = .ok (.getfield 50, 3) := by decide +kernel
theorem dd_Mo_submit_14 : decode cc_Mo_submit 14 = .ok (.iload_n 1, 1) := by decide +kernel
theorem dd_Mo_submit_15 : decode cc_Mo_submit 15 = .ok (.iaload, 1) := by decide +kernel
theorem dd_Mo_submit_16 : decode cc_Mo_submit 16 = .ok (.iconst 1, 1) := by decide +kernel
theorem dd_Mo_submit_17 : decode cc_Mo_submit 17 = .ok (.if_icmp .eq 10, 3) := by decide +kernel
theorem dd_Mo_submit_20 : decode cc_Mo_submit 20 = .ok (.aload_n 0, 1) := by decide +kernel
theorem dd_Mo_submit_21 : decode cc_Mo_submit 21 = .ok (.iconst 2, 1) := by decide +kernel
theorem dd_Mo_submit_22 : decode cc_Mo_submit 22 = .ok (.putfield 105, 3) := by decide +kernel
theorem dd_Mo_submit_25 : decode cc_Mo_submit 25 = .ok (.iconst 0, 1) := by decide +kernel
theorem dd_Mo_submit_26 : decode cc_Mo_submit 26 = .ok (.ireturn, 1) := by decide +kernel
theorem dd_Mo_submit_27 : decode cc_Mo_submit 27 = .ok (.aload_n 0, 1) := by decide +kernel
theorem dd_Mo_submit_28 : decode cc_Mo_submit 28 = .ok (.getfield 176, 3) := by decide +kernel
theorem dd_Mo_submit_31 : decode cc_Mo_submit 31 = .ok (.bipush 40, 2) := by decide +kernel
theorem dd_Mo_submit_33 : decode cc_Mo_submit 33 = .ok (.if_icmp .eq 38, 3) := by decide +kernel
theorem dd_Mo_submit_36 : decode cc_Mo_submit 36 = .ok (.iload_n 2, 1) := by decide +kernel
theorem dd_Mo_submit_37 : decode cc_Mo_submit 37 = .ok (.iconst 0, 1) := by decide +kernel
theorem dd_Mo_submit_38 : decode cc_Mo_submit 38 = .ok (.iconst 3, 1) := by decide +kernel
theorem dd_Mo_submit_39 : decode cc_Mo_submit 39 = .ok (.invokestatic 186, 3) := by decide +kernel
theorem dd_Mo_submit_42 : decode cc_Mo_submit 42 = .ok (.ifCond .eq 29, 3) := by decide +kernel
theorem dd_Mo_submit_45 : decode cc_Mo_submit 45 = .ok (.iload_n 3, 1) := by decide +kernel
theorem dd_Mo_submit_46 : decode cc_Mo_submit 46 = .ok (.iconst 0, 1) := by decide +kernel
theorem dd_Mo_submit_47 : decode cc_Mo_submit 47 = .ok (.iconst 3, 1) := by decide +kernel
theorem dd_Mo_submit_48 : decode cc_Mo_submit 48 = .ok (.invokestatic 186, 3) := by decide +kernel
theorem dd_Mo_submit_51 : decode cc_Mo_submit 51 = .ok (.ifCond .eq 20, 3) := by decide +kernel
theorem dd_Mo_submit_54 : decode cc_Mo_submit 54 = .ok (.iload_n 2, 1) := by decide +kernel
theorem dd_Mo_submit_55 : decode cc_Mo_submit 55 = .ok (.iload_n 3, 1) := by decide +kernel
theorem dd_Mo_submit_56 : decode cc_Mo_submit 56 = .ok (.if_icmp .eq 15, 3) := by decide +kernel
theorem dd_Mo_submit_59 : decode cc_Mo_submit 59 = .ok (.iload 4, 2) := by decide +kernel
theorem dd_Mo_submit_61 : decode cc_Mo_submit 61 = .ok (.iconst 1, 1) := by decide +kernel
theorem dd_Mo_submit_62 : decode cc_Mo_submit 62 = .ok (.sipush 1000, 3) := by decide +kernel
theorem dd_Mo_submit_65 : decode cc_Mo_submit 65 = .ok (.invokestatic 186, 3) := by decide +kernel
theorem dd_Mo_submit_68 : decode cc_Mo_submit 68 = .ok (.ifCond .ne 5, 3) := by decide +kernel
theorem dd_Mo_submit_71 : decode cc_Mo_submit 71 = .ok (.iconst (-1), 1) := by decide +kernel
theorem dd_Mo_submit_72 : decode cc_Mo_submit 72 = .ok (.ireturn, 1) := by decide +kernel
theorem dd_Mo_submit_73 : decode cc_Mo_submit 73 = .ok (.aload_n 0, 1) := by decide +kernel
theorem dd_Mo_submit_74 : decode cc_Mo_submit 74 = .ok (.iload_n 1, 1) := by decide +kernel
theorem dd_Mo_submit_75 : decode cc_Mo_submit 75 = .ok (.invokevirtual 127, 3) := by decide +kernel
theorem dd_Mo_submit_78 : decode cc_Mo_submit 78 = .ok (.ifCond .ne 6, 3) := by decide +kernel
theorem dd_Mo_submit_81 : decode cc_Mo_submit 81 = .ok (.bipush (-2), 2) := by decide +kernel
theorem dd_Mo_submit_83 : decode cc_Mo_submit 83 = .ok (.ireturn, 1) := by decide +kernel
theorem dd_Mo_submit_84 : decode cc_Mo_submit 84 = .ok (.aload_n 0, 1) := by decide +kernel
theorem dd_Mo_submit_85 : decode cc_Mo_submit 85 = .ok (.getfield 7, 3) := by decide +kernel
theorem dd_Mo_submit_88 : decode cc_Mo_submit 88 = .ok (.aload_n 0, 1) := by decide +kernel
theorem dd_Mo_submit_89 : decode cc_Mo_submit 89 = .ok (.getfield 176, 3) := by decide +kernel
theorem dd_Mo_submit_92 : decode cc_Mo_submit 92 = .ok (.iload_n 2, 1) := by decide +kernel
theorem dd_Mo_submit_93 : decode cc_Mo_submit 93 = .ok (.iastore, 1) := by decide +kernel
theorem dd_Mo_submit_94 : decode cc_Mo_submit 94 = .ok (.aload_n 0, 1) := by decide +kernel
theorem dd_Mo_submit_95 : decode cc_Mo_submit 95 = .ok (.getfield 13, 3) := by decide +kernel
theorem dd_Mo_submit_98 : decode cc_Mo_submit 98 = .ok (.aload_n 0, 1) := by decide +kernel
theorem dd_Mo_submit_99 : decode cc_Mo_submit 99 = .ok (.getfield 176, 3) := by decide +kernel
theorem dd_Mo_submit_102 : decode cc_Mo_submit 102 = .ok (.iload_n 3, 1) := by decide +kernel
theorem dd_Mo_submit_103 : decode cc_Mo_submit 103 = .ok (.iastore, 1) := by decide +kernel
theorem dd_Mo_submit_104 : decode cc_Mo_submit 104 = .ok (.aload_n 0, 1) := by decide +kernel
theorem dd_Mo_submit_105 : decode cc_Mo_submit 105 = .ok (.getfield 16, 3) := by decide +kernel
theorem dd_Mo_submit_108 : decode cc_Mo_submit 108 = .ok (.aload_n 0, 1) := by decide +kernel
theorem dd_Mo_submit_109 : decode cc_Mo_submit 109 = .ok (.getfield 176, 3) := by decide +kernel
theorem dd_Mo_submit_112 : decode cc_Mo_submit 112 = .ok (.iload 4, 2) := by decide +kernel
theorem dd_Mo_submit_114 : decode cc_Mo_submit 114 = .ok (.iastore, 1) := by decide +kernel
theorem dd_Mo_submit_115 : decode cc_Mo_submit 115 = .ok (.aload_n 0, 1) := by decide +kernel
theorem dd_Mo_submit_116 : decode cc_Mo_submit 116 = .ok (.getfield 19, 3) := by decide +kernel
theorem dd_Mo_submit_119 : decode cc_Mo_submit 119 = .ok (.aload_n 0, 1) := by decide +kernel
theorem dd_Mo_submit_120 : decode cc_Mo_submit 120 = .ok (.getfield 176, 3) := by decide +kernel
theorem dd_Mo_submit_123 : decode cc_Mo_submit 123 = .ok (.iload_n 1, 1) := by decide +kernel
theorem dd_Mo_submit_124 : decode cc_Mo_submit 124 = .ok (.iastore, 1) := by decide +kernel
theorem dd_Mo_submit_125 : decode cc_Mo_submit 125 = .ok (.aload_n 0, 1) := by decide +kernel
theorem dd_Mo_submit_126 : decode cc_Mo_submit 126 = .ok (.dup, 1) := by decide +kernel
theorem dd_Mo_submit_127 : decode cc_Mo_submit 127 = .ok (.getfield 176, 3) := by decide +kernel
theorem dd_Mo_submit_130 : decode cc_Mo_submit 130 = .ok (.iconst 1, 1) := by decide +kernel
theorem dd_Mo_submit_131 : decode cc_Mo_submit 131 = .ok (.iadd, 1) := by decide +kernel
theorem dd_Mo_submit_132 : decode cc_Mo_submit 132 = .ok (.putfield 176, 3) := by decide +kernel
theorem dd_Mo_submit_135 : decode cc_Mo_submit 135 = .ok (.aload_n 0, 1) := by decide +kernel
theorem dd_Mo_submit_136 : decode cc_Mo_submit 136 = .ok (.getfield 176, 3) := by decide +kernel
theorem dd_Mo_submit_139 : decode cc_Mo_submit 139 = .ok (.iconst 1, 1) := by decide +kernel
theorem dd_Mo_submit_140 : decode cc_Mo_submit 140 = .ok (.isub, 1) := by decide +kernel
theorem dd_Mo_submit_141 : decode cc_Mo_submit 141 = .ok (.ireturn, 1) := by decide +kernel
theorem dd_Mo_isNode_0 : decode cc_Mo_isNode 0 = .ok (.aload_n 0, 1) := by decide +kernel
theorem dd_Mo_isNode_1 : decode cc_Mo_isNode 1 = .ok (.iload_n 1, 1) := by decide +kernel
theorem dd_Mo_isNode_2 : decode cc_Mo_isNode 2 = .ok (.iconst 0, 1) := by decide +kernel
theorem dd_Mo_isNode_3 : decode cc_Mo_isNode 3 = .ok (.iconst 3, 1) := by decide +kernel
theorem dd_Mo_isNode_4 : decode cc_Mo_isNode 4 = .ok (.invokestatic 186, 3) := by decide +kernel
theorem dd_Mo_isNode_7 : decode cc_Mo_isNode 7 = .ok (.ifCond .eq 7, 3) := by decide +kernel
theorem dd_Mo_isNode_10 : decode cc_Mo_isNode 10 = .ok (.iconst 0, 1) := by decide +kernel
theorem dd_Mo_isNode_11 : decode cc_Mo_isNode 11 = .ok (.goto 4, 3) := by decide +kernel
theorem dd_Mo_isNode_14 : decode cc_Mo_isNode 14 = .ok (.iconst 1, 1) := by decide +kernel
theorem dd_Mo_isNode_15 : decode cc_Mo_isNode 15 = .ok (.putfield 105, 3) := by decide +kernel
theorem dd_Mo_isNode_18 : decode cc_Mo_isNode 18 = .ok (.aload_n 0, 1) := by decide +kernel
theorem dd_Mo_isNode_19 : decode cc_Mo_isNode 19 = .ok (.getfield 105, 3) := by decide +kernel
theorem dd_Mo_isNode_22 : decode cc_Mo_isNode 22 = .ok (.ifCond .ne 7, 3) := by decide +kernel
theorem dd_Mo_isNode_25 : decode cc_Mo_isNode 25 = .ok (.iconst 1, 1) := by decide +kernel
theorem dd_Mo_isNode_26 : decode cc_Mo_isNode 26 = .ok (.goto 4, 3) := by decide +kernel
theorem dd_Mo_isNode_29 : decode cc_Mo_isNode 29 = .ok (.iconst 0, 1) := by decide +kernel
theorem dd_Mo_isNode_30 : decode cc_Mo_isNode 30 = .ok (.ireturn, 1) := by decide +kernel
theorem dd_Mo_in_0 : decode cc_Mo_in 0 = .ok (.iload_n 0, 1) := by decide +kernel
theorem dd_Mo_in_1 : decode cc_Mo_in 1 = .ok (.iload_n 1, 1) := by decide +kernel
theorem dd_Mo_in_2 : decode cc_Mo_in 2 = .ok (.if_icmp .lt 12, 3) := by decide +kernel
theorem dd_Mo_in_5 : decode cc_Mo_in 5 = .ok (.iload_n 0, 1) := by decide +kernel
theorem dd_Mo_in_6 : decode cc_Mo_in 6 = .ok (.iload_n 2, 1) := by decide +kernel
theorem dd_Mo_in_7 : decode cc_Mo_in 7 = .ok (.if_icmp .gt 7, 3) := by decide +kernel
theorem dd_Mo_in_10 : decode cc_Mo_in 10 = .ok (.iconst 1, 1) := by decide +kernel
theorem dd_Mo_in_11 : decode cc_Mo_in 11 = .ok (.goto 4, 3) := by decide +kernel
theorem dd_Mo_in_14 : decode cc_Mo_in 14 = .ok (.iconst 0, 1) := by decide +kernel
theorem dd_Mo_in_15 : decode cc_Mo_in 15 = .ok (.ireturn, 1) := by decide +kernel
theorem dd_Mo_record_0 : decode cc_Mo_record 0 = .ok (.aload_n 0, 1) := by decide +kernel
theorem dd_Mo_record_1 : decode cc_Mo_record 1 = .ok (.getfield 56, 3) := by decide +kernel
theorem dd_Mo_record_4 : decode cc_Mo_record 4 = .ok (.iload_n 1, 1) := by decide +kernel
theorem dd_Mo_record_5 : decode cc_Mo_record 5 = .ok (.iaload, 1) := by decide +kernel
theorem dd_Mo_record_6 : decode cc_Mo_record 6 = .ok (.ifCond .ne 10, 3) := by decide +kernel
theorem dd_Mo_record_9 : decode cc_Mo_record 9 = .ok (.aload_n 0, 1) := by decide +kernel
theorem dd_Mo_record_10 : decode cc_Mo_record 10 = .ok (.iload_n 1, 1) := by decide +kernel
theorem dd_Mo_record_11 : decode cc_Mo_record 11 = .ok (.invokevirtual 109, 3) := by decide +kernel
theorem dd_Mo_record_14 : decode cc_Mo_record 14 = .ok (.iconst 0, 1) := by decide +kernel
theorem dd_Mo_record_15 : decode cc_Mo_record 15 = .ok (.ireturn, 1) := by decide +kernel
theorem dd_Mo_record_16 : decode cc_Mo_record 16 = .ok (.aload_n 0, 1) := by decide +kernel
theorem dd_Mo_record_17 : decode cc_Mo_record 17 = .ok (.getfield 56, 3) := by decide +kernel
theorem dd_Mo_record_20 : decode cc_Mo_record 20 = .ok (.iload_n 1, 1) := by decide +kernel
theorem dd_Mo_record_21 : decode cc_Mo_record 21 = .ok (.aload_n 0, 1) := by decide +kernel
theorem dd_Mo_record_22 : decode cc_Mo_record 22 = .ok (.getfield 56, 3) := by decide +kernel
theorem dd_Mo_record_25 : decode cc_Mo_record 25 = .ok (.iload_n 1, 1) := by decide +kernel
theorem dd_Mo_record_26 : decode cc_Mo_record 26 = .ok (.iaload, 1) := by decide +kernel
theorem dd_Mo_record_27 : decode cc_Mo_record 27 = .ok (.ifCond .le 14, 3) := by decide +kernel
theorem dd_Mo_record_30 : decode cc_Mo_record 30 = .ok (.aload_n 0, 1) := by decide +kernel
theorem dd_Mo_record_31 : decode cc_Mo_record 31 = .ok (.getfield 56, 3) := by decide +kernel
theorem dd_Mo_record_34 : decode cc_Mo_record 34 = .ok (.iload_n 1, 1) := by decide +kernel
theorem dd_Mo_record_35 : decode cc_Mo_record 35 = .ok (.iaload, 1) := by decide +kernel
theorem dd_Mo_record_36 : decode cc_Mo_record 36 = .ok (.iconst 1, 1) := by decide +kernel
theorem dd_Mo_record_37 : decode cc_Mo_record 37 = .ok (.isub, 1) := by decide +kernel
theorem dd_Mo_record_38 : decode cc_Mo_record 38 = .ok (.goto 4, 3) := by decide +kernel
theorem dd_Mo_record_41 : decode cc_Mo_record 41 = .ok (.iconst (-1), 1) := by decide +kernel
theorem dd_Mo_record_42 : decode cc_Mo_record 42 = .ok (.iastore, 1) := by decide +kernel
theorem dd_Mo_record_43 : decode cc_Mo_record 43 = .ok (.aload_n 0, 1) := by decide +kernel
theorem dd_Mo_record_44 : decode cc_Mo_record 44 = .ok (.getfield 53, 3) := by decide +kernel
theorem dd_Mo_record_47 : decode cc_Mo_record 47 = .ok (.iload_n 1, 1) := by decide +kernel
theorem dd_Mo_record_48 : decode cc_Mo_record 48 = .ok (.dup2, 1) := by decide +kernel
theorem dd_Mo_record_49 : decode cc_Mo_record 49 = .ok (.iaload, 1) := by decide +kernel
theorem dd_Mo_record_50 : decode cc_Mo_record 50 = .ok (.iconst 1, 1) := by decide +kernel
theorem dd_Mo_record_51 : decode cc_Mo_record 51 = .ok (.iadd, 1) := by decide +kernel
theorem dd_Mo_record_52 : decode cc_Mo_record 52 = .ok (.iastore, 1) := by decide +kernel
theorem dd_Mo_record_53 : decode cc_Mo_record 53 = .ok (.iconst 1, 1) := by decide +kernel
theorem dd_Mo_record_54 : decode cc_Mo_record 54 = .ok (.ireturn, 1) := by decide +kernel
theorem dd_Mo_fall_0 : decode cc_Mo_fall 0 = .ok (.aload_n 0, 1) := by decide +kernel
theorem dd_Mo_fall_1 : decode cc_Mo_fall 1 = .ok (.getfield 50, 3) := by decide +kernel
theorem dd_Mo_fall_4 : decode cc_Mo_fall 4 = .ok (.iload_n 1, 1) := by decide +kernel
theorem dd_Mo_fall_5 : decode cc_Mo_fall 5 = .ok (.iconst 0, 1) := by decide +kernel
theorem dd_Mo_fall_6 : decode cc_Mo_fall 6 = .ok (.iastore, 1) := by decide +kernel
theorem dd_Mo_fall_7 : decode cc_Mo_fall 7 = .ok (.aload_n 0, 1) := by decide +kernel
theorem dd_Mo_fall_8 : decode cc_Mo_fall 8 = .ok (.getfield 56, 3) := by decide +kernel
theorem dd_Mo_fall_11 : decode cc_Mo_fall 11 = .ok (.iload_n 1, 1) := by decide +kernel
theorem dd_Mo_fall_12 : decode cc_Mo_fall 12 = .ok (.iconst (-1), 1) := by decide +kernel
theorem dd_Mo_fall_13 : decode cc_Mo_fall 13 = .ok (.iastore, 1) := by decide +kernel
theorem dd_Mo_fall_14 : decode cc_Mo_fall 14 = .ok (.aload_n 0, 1) := by decide +kernel
theorem dd_Mo_fall_15 : decode cc_Mo_fall 15 = .ok (.iload_n 1, 1) := by decide +kernel
theorem dd_Mo_fall_16 : decode cc_Mo_fall 16 = .ok (.invokevirtual 101, 3) := by decide +kernel
theorem dd_Mo_fall_19 : decode cc_Mo_fall 19 = .ok (.return_, 1) := by decide +kernel
theorem dd_Mo_deliver_0 : decode cc_Mo_deliver 0 = .ok (.aload_n 0, 1) := by decide +kernel
theorem dd_Mo_deliver_1 : decode cc_Mo_deliver 1 = .ok (.iload_n 2, 1) := by decide +kernel
theorem dd_Mo_deliver_2 : decode cc_Mo_deliver 2 = .ok (.invokevirtual 193, 3) := by decide +kernel
theorem dd_Mo_deliver_5 : decode cc_Mo_deliver 5 = .ok (.ifCond .eq 24, 3) := by decide +kernel
theorem dd_Mo_deliver_8 : decode cc_Mo_deliver 8 = .ok (.iload_n 1, 1) := by decide +kernel
theorem dd_Mo_deliver_9 : decode cc_Mo_deliver 9 = .ok (.iconst 0, 1) := by decide +kernel
theorem dd_Mo_deliver_10 : decode cc_Mo_deliver 10 = .ok (.aload_n 0, 1) := by decide +kernel
theorem dd_Mo_deliver_11 : decode cc_Mo_deliver 11 = .ok (.getfield 112, 3) := by decide +kernel
theorem dd_Mo_deliver_14 : decode cc_Mo_deliver 14 = .ok (.iconst 1, 1) := by decide +kernel
theorem dd_Mo_deliver_15 : decode cc_Mo_deliver 15 = .ok (.isub, 1) := by decide +kernel
theorem dd_Mo_deliver_16 : decode cc_Mo_deliver 16 = .ok (.invokestatic 186, 3) := by decide +kernel
theorem dd_Mo_deliver_19 : decode cc_Mo_deliver 19 = .ok (.ifCond .eq 10, 3) := by decide +kernel
theorem dd_Mo_deliver_22 : decode cc_Mo_deliver 22 = .ok (.aload_n 0, 1) := by decide +kernel
theorem dd_Mo_deliver_23 : decode cc_Mo_deliver 23 = .ok (.invokevirtual 196, 3) := by decide +kernel
theorem dd_Mo_deliver_26 : decode cc_Mo_deliver 26 = .ok (.ifCond .eq 5, 3) := by decide +kernel
theorem dd_Mo_deliver_29 : decode cc_Mo_deliver 29 = .ok (.iconst 0, 1) := by decide +kernel
theorem dd_Mo_deliver_30 : decode cc_Mo_deliver 30 = .ok (.ireturn, 1) := by decide +kernel
theorem dd_Mo_deliver_31 : decode cc_Mo_deliver 31 = .ok (.aload_n 0, 1) := by decide +kernel
theorem dd_Mo_deliver_32 : decode cc_Mo_deliver 32 = .ok (.iload_n 2, 1) := by decide +kernel
theorem dd_Mo_deliver_33 : decode cc_Mo_deliver 33 = .ok (.iload_n 1, 1) := by decide +kernel
theorem dd_Mo_deliver_34 : decode cc_Mo_deliver 34 = .ok (.invokevirtual 200, 3) := by decide +kernel
theorem dd_Mo_deliver_37 : decode cc_Mo_deliver 37 = .ok (.iconst 1, 1) := by decide +kernel
theorem dd_Mo_deliver_38 : decode cc_Mo_deliver 38 = .ok (.ireturn, 1) := by decide +kernel
theorem dd_Mo_works_0 : decode cc_Mo_works 0 = .ok (.aload_n 0, 1) := by decide +kernel
theorem dd_Mo_works_1 : decode cc_Mo_works 1 = .ok (.iload_n 1, 1) := by decide +kernel
theorem dd_Mo_works_2 : decode cc_Mo_works 2 = .ok (.invokevirtual 190, 3) := by decide +kernel
theorem dd_Mo_works_5 : decode cc_Mo_works 5 = .ok (.ifCond .eq 17, 3) := by decide +kernel
theorem dd_Mo_works_8 : decode cc_Mo_works 8 = .ok (.aload_n 0, 1) := by decide +kernel
theorem dd_Mo_works_9 : decode cc_Mo_works 9 = .ok (.getfield 50, 3) := by decide +kernel
theorem dd_Mo_works_12 : decode cc_Mo_works 12 = .ok (.iload_n 1, 1) := by decide +kernel
theorem dd_Mo_works_13 : decode cc_Mo_works 13 = .ok (.iaload, 1) := by decide +kernel
theorem dd_Mo_works_14 : decode cc_Mo_works 14 = .ok (.iconst 1, 1) := by decide +kernel
theorem dd_Mo_works_15 : decode cc_Mo_works 15 = .ok (.if_icmp .ne 7, 3) := by decide +kernel
theorem dd_Mo_works_18 : decode cc_Mo_works 18 = .ok (.iconst 1, 1) := by decide +kernel
theorem dd_Mo_works_19 : decode cc_Mo_works 19 = .ok (.goto 4, 3) := by decide +kernel
theorem dd_Mo_works_22 : decode cc_Mo_works 22 = .ok (.iconst 0, 1) := by decide +kernel
theorem dd_Mo_works_23 : decode cc_Mo_works 23 = .ok (.ireturn, 1) := by decide +kernel
theorem dd_Mo_full_0 : decode cc_Mo_full 0 = .ok (.aload_n 0, 1) := by decide +kernel
theorem dd_Mo_full_1 : decode cc_Mo_full 1 = .ok (.getfield 112, 3) := by decide +kernel
theorem dd_Mo_full_4 : decode cc_Mo_full 4 = .ok (.sipush 800, 3) := by decide +kernel
theorem dd_Mo_full_7 : decode cc_Mo_full 7 = .ok (.if_icmp .lt 7, 3) := by decide +kernel
theorem dd_Mo_full_10 : decode cc_Mo_full 10 = .ok (.iconst 1, 1) := by decide +kernel
theorem dd_Mo_full_11 : decode cc_Mo_full 11 = .ok (.goto 4, 3) := by decide +kernel
theorem dd_Mo_full_14 : decode cc_Mo_full 14 = .ok (.iconst 0, 1) := by decide +kernel
theorem dd_Mo_full_15 : decode cc_Mo_full 15 = .ok (.ireturn, 1) := by decide +kernel
theorem dd_Mo_take_0 : decode cc_Mo_take 0 = .ok (.aload_n 0, 1) := by decide +kernel
theorem dd_Mo_take_1 : decode cc_Mo_take 1 = .ok (.getfield 41, 3) := by decide +kernel
theorem dd_Mo_take_4 : decode cc_Mo_take 4 = .ok (.iload_n 2, 1) := by decide +kernel
theorem dd_Mo_take_5 : decode cc_Mo_take 5 = .ok (.iaload, 1) := by decide +kernel
theorem dd_Mo_take_6 : decode cc_Mo_take 6 = .ok (.istore_n 3, 1) := by decide +kernel
theorem dd_Mo_take_7 : decode cc_Mo_take 7 = .ok (.aload_n 0, 1) := by decide +kernel
theorem dd_Mo_take_8 : decode cc_Mo_take 8 = .ok (.getfield 44, 3) := by decide +kernel
theorem dd_Mo_take_11 : decode cc_Mo_take 11 = .ok (.iload_n 2, 1) := by decide +kernel
theorem dd_Mo_take_12 : decode cc_Mo_take 12 = .ok (.iaload, 1) := by decide +kernel
theorem dd_Mo_take_13 : decode cc_Mo_take 13 = .ok (.istore 4, 2) := by decide +kernel
theorem dd_Mo_take_15 : decode cc_Mo_take 15 = .ok (.aload_n 0, 1) := by decide +kernel
theorem dd_Mo_take_16 : decode cc_Mo_take 16 = .ok (.getfield 47, 3) := by decide +kernel
theorem dd_Mo_take_19 : decode cc_Mo_take 19 = .ok (.iload_n 2, 1) := by decide +kernel
theorem dd_Mo_take_20 : decode cc_Mo_take 20 = .ok (.iaload, 1) := by decide +kernel
theorem dd_Mo_take_21 : decode cc_Mo_take 21 = .ok (.ifCond .ne 71, 3) := by decide +kernel
theorem dd_Mo_take_24 : decode cc_Mo_take 24 = .ok (.iload_n 3, 1) := by decide +kernel
theorem dd_Mo_take_25 : decode cc_Mo_take 25 = .ok (.aload_n 0, 1) := by decide +kernel
theorem dd_Mo_take_26 : decode cc_Mo_take 26 = .ok (.getfield 26, 3) := by decide +kernel
theorem dd_Mo_take_29 : decode cc_Mo_take 29 = .ok (.iload 4, 2) := by decide +kernel
theorem dd_Mo_take_31 : decode cc_Mo_take 31 = .ok (.iaload, 1) := by decide +kernel
theorem dd_Mo_take_32 : decode cc_Mo_take 32 = .ok (.if_icmp .ne 222, 3) := by decide +kernel
theorem dd_Mo_take_35 : decode cc_Mo_take 35 = .ok (.aload_n 0, 1) := by decide +kernel
theorem dd_Mo_take_36 : decode cc_Mo_take 36 = .ok (.iload 4, 2) := by decide +kernel
theorem dd_Mo_take_38 : decode cc_Mo_take 38 = .ok (.invokevirtual 119, 3) := by decide +kernel
theorem dd_Mo_take_41 : decode cc_Mo_take 41 = .ok (.ifCond .eq 213, 3) := by decide +kernel
theorem dd_Mo_take_44 : decode cc_Mo_take 44 = .ok (.aload_n 0, 1) := by decide +kernel
theorem dd_Mo_take_45 : decode cc_Mo_take 45 = .ok (.getfield 62, 3) := by decide +kernel
theorem dd_Mo_take_48 : decode cc_Mo_take 48 = .ok (.aload_n 0, 1) := by decide +kernel
theorem dd_Mo_take_49 : decode cc_Mo_take 49 = .ok (.iload_n 1, 1) := by decide +kernel
theorem dd_Mo_take_50 : decode cc_Mo_take 50 = .ok (.iload 4, 2) := by decide +kernel
theorem dd_Mo_take_52 : decode cc_Mo_take 52 = .ok (.invokevirtual 123, 3) := by decide +kernel
theorem dd_Mo_take_55 : decode cc_Mo_take 55 = .ok (.baload, 1) := by decide +kernel
theorem dd_Mo_take_56 : decode cc_Mo_take 56 = .ok (.ifCond .ne 198, 3) := by decide +kernel
theorem dd_Mo_take_59 : decode cc_Mo_take 59 = .ok (.aload_n 0, 1) := by decide +kernel
theorem dd_Mo_take_60 : decode cc_Mo_take 60 = .ok (.iload_n 1, 1) := by decide +kernel
theorem dd_Mo_take_61 : decode cc_Mo_take 61 = .ok (.invokevirtual 127, 3) := by decide +kernel
theorem dd_Mo_take_64 : decode cc_Mo_take 64 = .ok (.ifCond .eq 190, 3) := by decide +kernel
theorem dd_Mo_take_67 : decode cc_Mo_take 67 = .ok (.aload_n 0, 1) := by decide +kernel
theorem dd_Mo_take_68 : decode cc_Mo_take 68 = .ok (.getfield 62, 3) := by decide +kernel
theorem dd_Mo_take_71 : decode cc_Mo_take 71 = .ok (.aload_n 0, 1) := by decide +kernel
theorem dd_Mo_take_72 : decode cc_Mo_take 72 = .ok (.iload_n 1, 1) := by decide +kernel
theorem dd_Mo_take_73 : decode cc_Mo_take 73 = .ok (.iload 4, 2) := by decide +kernel
theorem dd_Mo_take_75 : decode cc_Mo_take 75 = .ok (.invokevirtual 123, 3) := by decide +kernel
theorem dd_Mo_take_78 : decode cc_Mo_take 78 = .ok (.iconst 1, 1) := by decide +kernel
theorem dd_Mo_take_79 : decode cc_Mo_take 79 = .ok (.bastore, 1) := by decide +kernel
theorem dd_Mo_take_80 : decode cc_Mo_take 80 = .ok (.aload_n 0, 1) := by decide +kernel
theorem dd_Mo_take_81 : decode cc_Mo_take 81 = .ok (.iload_n 1, 1) := by decide +kernel
theorem dd_Mo_take_82 : decode cc_Mo_take 82 = .ok (.iload 4, 2) := by decide +kernel
theorem dd_Mo_take_84 : decode cc_Mo_take 84 = .ok (.iconst 1, 1) := by decide +kernel
theorem dd_Mo_take_85 : decode cc_Mo_take 85 = .ok (.invokevirtual 130, 3) := by decide +kernel
theorem dd_Mo_take_88 : decode cc_Mo_take 88 = .ok (.pop, 1) := by decide +kernel
theorem dd_Mo_take_89 : decode cc_Mo_take 89 = .ok (.goto 165, 3) := by decide +kernel
theorem dd_Mo_take_92 : decode cc_Mo_take 92 = .ok (.aload_n 0, 1) := by decide +kernel
theorem dd_Mo_take_93 : decode cc_Mo_take 93 = .ok (.getfield 47, 3) := by decide +kernel
theorem dd_Mo_take_96 : decode cc_Mo_take 96 = .ok (.iload_n 2, 1) := by decide +kernel
theorem dd_Mo_take_97 : decode cc_Mo_take 97 = .ok (.iaload, 1) := by decide +kernel
theorem dd_Mo_take_98 : decode cc_Mo_take 98 = .ok (.iconst 1, 1) := by decide +kernel
theorem dd_Mo_take_99 : decode cc_Mo_take 99 = .ok (.if_icmp .ne 24, 3) := by decide +kernel
theorem dd_Mo_take_102 : decode cc_Mo_take 102 = .ok (.aload_n 0, 1) := by decide +kernel
theorem dd_Mo_take_103 : decode cc_Mo_take 103 = .ok (.getfield 80, 3) := by decide +kernel
theorem dd_Mo_take_106 : decode cc_Mo_take 106 = .ok (.bipush 90, 2) := by decide +kernel
theorem dd_Mo_take_108 : decode cc_Mo_take 108 = .ok (.iload_n 1, 1) := by decide +kernel
theorem dd_Mo_take_109 : decode cc_Mo_take 109 = .ok (.imul, 1) := by decide +kernel
theorem dd_Mo_take_110 : decode cc_Mo_take 110 = .ok (.iload 4, 2) := by decide +kernel
theorem dd_Mo_take_112 : decode cc_Mo_take 112 = .ok (.iadd, 1) := by decide +kernel
theorem dd_Mo_take_113 : decode cc_Mo_take 113 = .ok (.dup2, 1) := by decide +kernel
theorem dd_Mo_take_114 : decode cc_Mo_take 114 = .ok (.iaload, 1) := by decide +kernel
theorem dd_Mo_take_115 : decode cc_Mo_take 115 = .ok (.iconst 1, 1) := by decide +kernel
theorem dd_Mo_take_116 : decode cc_Mo_take 116 = .ok (.iload_n 3, 1) := by decide +kernel
theorem dd_Mo_take_117 : decode cc_Mo_take 117 = .ok (.ishl, 1) := by decide +kernel
theorem dd_Mo_take_118 : decode cc_Mo_take 118 = .ok (.ior, 1) := by decide +kernel
theorem dd_Mo_take_119 : decode cc_Mo_take 119 = .ok (.iastore, 1) := by decide +kernel
theorem dd_Mo_take_120 : decode cc_Mo_take 120 = .ok (.goto 21, 3) := by decide +kernel
theorem dd_Mo_take_123 : decode cc_Mo_take 123 = .ok (.aload_n 0, 1) := by decide +kernel
theorem dd_Mo_take_124 : decode cc_Mo_take 124 = .ok (.getfield 83, 3) := by decide +kernel
theorem dd_Mo_take_127 : decode cc_Mo_take 127 = .ok (.bipush 90, 2) := by decide +kernel
theorem dd_Mo_take_129 : decode cc_Mo_take 129 = .ok (.iload_n 1, 1) := by decide +kernel
theorem dd_Mo_take_130 : decode cc_Mo_take 130 = .ok (.imul, 1) := by decide +kernel
theorem dd_Mo_take_131 : decode cc_Mo_take 131 = .ok (.iload 4, 2) := by decide +kernel
theorem dd_Mo_take_133 : decode cc_Mo_take 133 = .ok (.iadd, 1) := by decide +kernel
theorem dd_Mo_take_134 : decode cc_Mo_take 134 = .ok (.dup2, 1) := by decide +kernel
theorem dd_Mo_take_135 : decode cc_Mo_take 135 = .ok (.iaload, 1) := by decide +kernel
theorem dd_Mo_take_136 : decode cc_Mo_take 136 = .ok (.iconst 1, 1) := by decide +kernel
theorem dd_Mo_take_137 : decode cc_Mo_take 137 = .ok (.iload_n 3, 1) := by decide +kernel
theorem dd_Mo_take_138 : decode cc_Mo_take 138 = .ok (.ishl, 1) := by decide +kernel
theorem dd_Mo_take_139 : decode cc_Mo_take 139 = .ok (.ior, 1) := by decide +kernel
theorem dd_Mo_take_140 : decode cc_Mo_take 140 = .ok (.iastore, 1) := by decide +kernel
theorem dd_Mo_take_141 : decode cc_Mo_take 141 = .ok (.aload_n 0, 1) := by decide +kernel
theorem dd_Mo_take_142 : decode cc_Mo_take 142 = .ok (.getfield 47, 3) := by decide +kernel
theorem dd_Mo_take_145 : decode cc_Mo_take 145 = .ok (.iload_n 2, 1) := by decide +kernel
theorem dd_Mo_take_146 : decode cc_Mo_take 146 = .ok (.iaload, 1) := by decide +kernel
theorem dd_Mo_take_147 : decode cc_Mo_take 147 = .ok (.iconst 1, 1) := by decide +kernel
theorem dd_Mo_take_148 : decode cc_Mo_take 148 = .ok (.if_icmp .ne 30, 3) := by decide +kernel
theorem dd_Mo_take_151 : decode cc_Mo_take 151 = .ok (.aload_n 0, 1) := by decide +kernel
theorem dd_Mo_take_152 : decode cc_Mo_take 152 = .ok (.getfield 80, 3) := by decide +kernel
theorem dd_Mo_take_155 : decode cc_Mo_take 155 = .ok (.bipush 90, 2) := by decide +kernel
theorem dd_Mo_take_157 : decode cc_Mo_take 157 = .ok (.iload_n 1, 1) := by decide +kernel
theorem dd_Mo_take_158 : decode cc_Mo_take 158 = .ok (.imul, 1) := by decide +kernel
theorem dd_Mo_take_159 : decode cc_Mo_take 159 = .ok (.iload 4, 2) := by decide +kernel
theorem dd_Mo_take_161 : decode cc_Mo_take 161 = .ok (.iadd, 1) := by decide +kernel
theorem dd_Mo_take_162 : decode cc_Mo_take 162 = .ok (.iaload, 1) := by decide +kernel
theorem dd_Mo_take_163 : decode cc_Mo_take 163 = .ok (.invokestatic 115, 3) := by decide +kernel
theorem dd_Mo_take_166 : decode cc_Mo_take 166 = .ok (.iconst 3, 1) := by decide +kernel
theorem dd_Mo_take_167 : decode cc_Mo_take 167 = .ok (.if_icmp .lt 7, 3) := by decide +kernel
theorem dd_Mo_take_170 : decode cc_Mo_take 170 = .ok (.iconst 1, 1) := by decide +kernel
theorem dd_Mo_take_171 : decode cc_Mo_take 171 = .ok (.goto 31, 3) := by decide +kernel
theorem dd_Mo_take_174 : decode cc_Mo_take 174 = .ok (.iconst 0, 1) := by decide +kernel
theorem dd_Mo_take_175 : decode cc_Mo_take 175 = .ok (.goto 27, 3) := by decide +kernel
theorem dd_Mo_take_178 : decode cc_Mo_take 178 = .ok (.aload_n 0, 1) := by decide +kernel
theorem dd_Mo_take_179 : decode cc_Mo_take 179 = .ok (.getfield 83, 3) := by decide +kernel
theorem dd_Mo_take_182 : decode cc_Mo_take 182 = .ok (.bipush 90, 2) := by decide +kernel
theorem dd_Mo_take_184 : decode cc_Mo_take 184 = .ok (.iload_n 1, 1) := by decide +kernel
theorem dd_Mo_take_185 : decode cc_Mo_take 185 = .ok (.imul, 1) := by decide +kernel
theorem dd_Mo_take_186 : decode cc_Mo_take 186 = .ok (.iload 4, 2) := by decide +kernel
theorem dd_Mo_take_188 : decode cc_Mo_take 188 = .ok (.iadd, 1) := by decide +kernel
theorem dd_Mo_take_189 : decode cc_Mo_take 189 = .ok (.iaload, 1) := by decide +kernel
theorem dd_Mo_take_190 : decode cc_Mo_take 190 = .ok (.invokestatic 115, 3) := by decide +kernel
theorem dd_Mo_take_193 : decode cc_Mo_take 193 = .ok (.iconst 2, 1) := by decide +kernel
theorem dd_Mo_take_194 : decode cc_Mo_take 194 = .ok (.if_icmp .lt 7, 3) := by decide +kernel
theorem dd_Mo_take_197 : decode cc_Mo_take 197 = .ok (.iconst 1, 1) := by decide +kernel
theorem dd_Mo_take_198 : decode cc_Mo_take 198 = .ok (.goto 4, 3) := by decide +kernel
theorem dd_Mo_take_201 : decode cc_Mo_take 201 = .ok (.iconst 0, 1) := by decide +kernel
theorem dd_Mo_take_202 : decode cc_Mo_take 202 = .ok (.istore 5, 2) := by decide +kernel
theorem dd_Mo_take_204 : decode cc_Mo_take 204 = .ok (.iload 5, 2) := by decide +kernel
theorem dd_Mo_take_206 : decode cc_Mo_take 206 = .ok (.ifCond .eq 48, 3) := by decide +kernel
theorem dd_Mo_take_209 : decode cc_Mo_take 209 = .ok (.aload_n 0, 1) := by decide +kernel
theorem dd_Mo_take_210 : decode cc_Mo_take 210 = .ok (.getfield 65, 3) := by decide +kernel
theorem dd_Mo_take_213 : decode cc_Mo_take 213 = .ok (.aload_n 0, 1) := by decide +kernel
theorem dd_Mo_take_214 : decode cc_Mo_take 214 = .ok (.iload_n 1, 1) := by decide +kernel
theorem dd_Mo_take_215 : decode cc_Mo_take 215 = .ok (.iload 4, 2) := by decide +kernel
theorem dd_Mo_take_217 : decode cc_Mo_take 217 = .ok (.invokevirtual 123, 3) := by decide +kernel
theorem dd_Mo_take_220 : decode cc_Mo_take 220 = .ok (.baload, 1) := by decide +kernel
theorem dd_Mo_take_221 : decode cc_Mo_take 221 = .ok (.ifCond .ne 33, 3) := by decide +kernel
theorem dd_Mo_take_224 : decode cc_Mo_take 224 = .ok (.aload_n 0, 1) := by decide +kernel
theorem dd_Mo_take_225 : decode cc_Mo_take 225 = .ok (.iload_n 1, 1) := by decide +kernel
theorem dd_Mo_take_226 : decode cc_Mo_take 226 = .ok (.invokevirtual 127, 3) := by decide +kernel
theorem dd_Mo_take_229 : decode cc_Mo_take 229 = .ok (.ifCond .eq 25, 3) := by decide +kernel
theorem dd_Mo_take_232 : decode cc_Mo_take 232 = .ok (.aload_n 0, 1) := by decide +kernel
theorem dd_Mo_take_233 : decode cc_Mo_take 233 = .ok (.getfield 65, 3) := by decide +kernel
theorem dd_Mo_take_236 : decode cc_Mo_take 236 = .ok (.aload_n 0, 1) := by decide +kernel
theorem dd_Mo_take_237 : decode cc_Mo_take 237 = .ok (.iload_n 1, 1) := by decide +kernel
theorem dd_Mo_take_238 : decode cc_Mo_take 238 = .ok (.iload 4, 2) := by decide +kernel
theorem dd_Mo_take_240 : decode cc_Mo_take 240 = .ok (.invokevirtual 123, 3) := by decide +kernel
theorem dd_Mo_take_243 : decode cc_Mo_take 243 = .ok (.iconst 1, 1) := by decide +kernel
theorem dd_Mo_take_244 : decode cc_Mo_take 244 = .ok (.bastore, 1) := by decide +kernel
theorem dd_Mo_take_245 : decode cc_Mo_take 245 = .ok (.aload_n 0, 1) := by decide +kernel
theorem dd_Mo_take_246 : decode cc_Mo_take 246 = .ok (.iload_n 1, 1) := by decide +kernel
theorem dd_Mo_take_247 : decode cc_Mo_take 247 = .ok (.iload 4, 2) := by decide +kernel
theorem dd_Mo_take_249 : decode cc_Mo_take 249 = .ok (.iconst 2, 1) := by decide +kernel
theorem dd_Mo_take_250 : decode cc_Mo_take 250 = .ok (.invokevirtual 130, 3) := by decide +kernel
theorem dd_Mo_take_253 : decode cc_Mo_take 253 = .ok (.pop, 1) := by decide +kernel
theorem dd_Mo_take_254 : decode cc_Mo_take 254 = .ok (.aload_n 0, 1) := by decide +kernel
theorem dd_Mo_take_255 : decode cc_Mo_take 255 = .ok (.iload_n 1, 1) := by decide +kernel
theorem dd_Mo_take_256 : decode cc_Mo_take 256 = .ok (.invokevirtual 134, 3) := by decide +kernel
theorem dd_Mo_take_259 : decode cc_Mo_take 259 = .ok (.return_, 1) := by decide +kernel
theorem dd_Mo_formed_0 : decode cc_Mo_formed 0 = .ok (.aload_n 0, 1) := by decide +kernel
theorem dd_Mo_formed_1 : decode cc_Mo_formed 1 = .ok (.getfield 29, 3) := by decide +kernel
theorem dd_Mo_formed_4 : decode cc_Mo_formed 4 = .ok (.iload_n 1, 1) := by decide +kernel
theorem dd_Mo_formed_5 : decode cc_Mo_formed 5 = .ok (.iaload, 1) := by decide +kernel
theorem dd_Mo_formed_6 : decode cc_Mo_formed 6 = .ok (.iconst 1, 1) := by decide +kernel
theorem dd_Mo_formed_7 : decode cc_Mo_formed 7 = .ok (.if_icmp .ne 20, 3) := by decide +kernel
theorem dd_Mo_formed_10 : decode cc_Mo_formed 10 = .ok (.aload_n 0, 1) := by decide +kernel
theorem dd_Mo_formed_11 : decode cc_Mo_formed 11 = .ok (.getfield 32, 3) := by decide +kernel
theorem dd_Mo_formed_14 : decode cc_Mo_formed 14 = .ok (.iload_n 1, 1) := by decide +kernel
theorem dd_Mo_formed_15 : decode cc_Mo_formed 15 = .ok (.iaload, 1) := by decide +kernel
theorem dd_Mo_formed_16 : decode cc_Mo_formed 16 = .ok (.ifCond .ne 7, 3) := by decide +kernel
theorem dd_Mo_formed_19 : decode cc_Mo_formed 19 = .ok (.iconst 1, 1) := by decide +kernel
theorem dd_Mo_formed_20 : decode cc_Mo_formed 20 = .ok (.goto 25, 3) := by decide +kernel
theorem dd_Mo_formed_23 : decode cc_Mo_formed 23 = .ok (.iconst 0, 1) := by decide +kernel
theorem dd_Mo_formed_24 : decode cc_Mo_formed 24 = .ok (.goto 21, 3) := by decide +kernel
theorem dd_Mo_formed_27 : decode cc_Mo_formed 27 = .ok (.aload_n 0, 1) := by decide +kernel
theorem dd_Mo_formed_28 : decode cc_Mo_formed 28 = .ok (.getfield 32, 3) := by decide +kernel
theorem dd_Mo_formed_31 : decode cc_Mo_formed 31 = .ok (.iload_n 1, 1) := by decide +kernel
theorem dd_Mo_formed_32 : decode cc_Mo_formed 32 = .ok (.iaload, 1) := by decide +kernel
theorem dd_Mo_formed_33 : decode cc_Mo_formed 33 = .ok (.invokestatic 115, 3) := by decide +kernel
theorem dd_Mo_formed_36 : decode cc_Mo_formed 36 = .ok (.iconst 3, 1) := by decide +kernel
theorem dd_Mo_formed_37 : decode cc_Mo_formed 37 = .ok (.if_icmp .lt 7, 3) := by decide +kernel
theorem dd_Mo_formed_40 : decode cc_Mo_formed 40 = .ok (.iconst 1, 1) := by decide +kernel
theorem dd_Mo_formed_41 : decode cc_Mo_formed 41 = .ok (.goto 4, 3) := by decide +kernel
theorem dd_Mo_formed_44 : decode cc_Mo_formed 44 = .ok (.iconst 0, 1) := by decide +kernel
theorem dd_Mo_formed_45 : decode cc_Mo_formed 45 = .ok (.ireturn, 1) := by decide +kernel
theorem dd_Mo_ones_0 : decode cc_Mo_ones 0 = .ok (.iload_n 0, 1) := by decide +kernel
theorem dd_Mo_ones_1 : decode cc_Mo_ones 1 = .ok (.iconst 1, 1) := by decide +kernel
theorem dd_Mo_ones_2 : decode cc_Mo_ones 2 = .ok (.iand, 1) := by decide +kernel
theorem dd_Mo_ones_3 : decode cc_Mo_ones 3 = .ok (.iload_n 0, 1) := by decide +kernel
theorem dd_Mo_ones_4 : decode cc_Mo_ones 4 = .ok (.iconst 1, 1) := by decide +kernel
theorem dd_Mo_ones_5 : decode cc_Mo_ones 5 = .ok (.ishr, 1) := by decide +kernel
theorem dd_Mo_ones_6 : decode cc_Mo_ones 6 = .ok (.iconst 1, 1) := by decide +kernel
theorem dd_Mo_ones_7 : decode cc_Mo_ones 7 = .ok (.iand, 1) := by decide +kernel
theorem dd_Mo_ones_8 : decode cc_Mo_ones 8 = .ok (.iadd, 1) := by decide +kernel
theorem dd_Mo_ones_9 : decode cc_Mo_ones 9 = .ok (.iload_n 0, 1) := by decide +kernel
theorem dd_Mo_ones_10 : decode cc_Mo_ones 10 = .ok (.iconst 2, 1) := by decide +kernel
theorem dd_Mo_ones_11 : decode cc_Mo_ones 11 = .ok (.ishr, 1) := by decide +kernel
theorem dd_Mo_ones_12 : decode cc_Mo_ones 12 = .ok (.iconst 1, 1) := by decide +kernel
theorem dd_Mo_ones_13 : decode cc_Mo_ones 13 = .ok (.iand, 1) := by decide +kernel
theorem dd_Mo_ones_14 : decode cc_Mo_ones 14 = .ok (.iadd, 1) := by decide +kernel
theorem dd_Mo_ones_15 : decode cc_Mo_ones 15 = .ok (.iload_n 0, 1) := by decide +kernel
theorem dd_Mo_ones_16 : decode cc_Mo_ones 16 = .ok (.iconst 3, 1) := by decide +kernel
theorem dd_Mo_ones_17 : decode cc_Mo_ones 17 = .ok (.ishr, 1) := by decide +kernel
theorem dd_Mo_ones_18 : decode cc_Mo_ones 18 = .ok (.iconst 1, 1) := by decide +kernel
theorem dd_Mo_ones_19 : decode cc_Mo_ones 19 = .ok (.iand, 1) := by decide +kernel
theorem dd_Mo_ones_20 : decode cc_Mo_ones 20 = .ok (.iadd, 1) := by decide +kernel
theorem dd_Mo_ones_21 : decode cc_Mo_ones 21 = .ok (.ireturn, 1) := by decide +kernel
theorem dd_Mo_spot_0 : decode cc_Mo_spot 0 = .ok (.bipush 60, 2) := by decide +kernel
theorem dd_Mo_spot_2 : decode cc_Mo_spot 2 = .ok (.iload_n 1, 1) := by decide +kernel
theorem dd_Mo_spot_3 : decode cc_Mo_spot 3 = .ok (.imul, 1) := by decide +kernel
theorem dd_Mo_spot_4 : decode cc_Mo_spot 4 = .ok (.iconst 4, 1) := by decide +kernel
theorem dd_Mo_spot_5 : decode cc_Mo_spot 5 = .ok (.aload_n 0, 1) := by decide +kernel
theorem dd_Mo_spot_6 : decode cc_Mo_spot 6 = .ok (.getfield 29, 3) := by decide +kernel
theorem dd_Mo_spot_9 : decode cc_Mo_spot 9 = .ok (.iload_n 2, 1) := by decide +kernel
theorem dd_Mo_spot_10 : decode cc_Mo_spot 10 = .ok (.iaload, 1) := by decide +kernel
theorem dd_Mo_spot_11 : decode cc_Mo_spot 11 = .ok (.imul, 1) := by decide +kernel
theorem dd_Mo_spot_12 : decode cc_Mo_spot 12 = .ok (.iadd, 1) := by decide +kernel
theorem dd_Mo_spot_13 : decode cc_Mo_spot 13 = .ok (.aload_n 0, 1) := by decide +kernel
theorem dd_Mo_spot_14 : decode cc_Mo_spot 14 = .ok (.getfield 26, 3) := by decide +kernel
theorem dd_Mo_spot_17 : decode cc_Mo_spot 17 = .ok (.iload_n 2, 1) := by decide +kernel
theorem dd_Mo_spot_18 : decode cc_Mo_spot 18 = .ok (.iaload, 1) := by decide +kernel
theorem dd_Mo_spot_19 : decode cc_Mo_spot 19 = .ok (.iadd, 1) := by decide +kernel
theorem dd_Mo_spot_20 : decode cc_Mo_spot 20 = .ok (.ireturn, 1) := by decide +kernel
theorem dd_Mo_say_0 : decode cc_Mo_say 0 = .ok (.aload_n 0, 1) := by decide +kernel
theorem dd_Mo_say_1 : decode cc_Mo_say 1 = .ok (.getfield 41, 3) := by decide +kernel
theorem dd_Mo_say_4 : decode cc_Mo_say 4 = .ok (.aload_n 0, 1) := by decide +kernel
theorem dd_Mo_say_5 : decode cc_Mo_say 5 = .ok (.getfield 112, 3) := by decide +kernel
theorem dd_Mo_say_8 : decode cc_Mo_say 8 = .ok (.iload_n 1, 1) := by decide +kernel
theorem dd_Mo_say_9 : decode cc_Mo_say 9 = .ok (.iastore, 1) := by decide +kernel
theorem dd_Mo_say_10 : decode cc_Mo_say 10 = .ok (.aload_n 0, 1) := by decide +kernel
theorem dd_Mo_say_11 : decode cc_Mo_say 11 = .ok (.getfield 44, 3) := by decide +kernel
theorem dd_Mo_say_14 : decode cc_Mo_say 14 = .ok (.aload_n 0, 1) := by decide +kernel
theorem dd_Mo_say_15 : decode cc_Mo_say 15 = .ok (.getfield 112, 3) := by decide +kernel
theorem dd_Mo_say_18 : decode cc_Mo_say 18 = .ok (.iload_n 2, 1) := by decide +kernel
theorem dd_Mo_say_19 : decode cc_Mo_say 19 = .ok (.iastore, 1) := by decide +kernel
theorem dd_Mo_say_20 : decode cc_Mo_say 20 = .ok (.aload_n 0, 1) := by decide +kernel
theorem dd_Mo_say_21 : decode cc_Mo_say 21 = .ok (.getfield 47, 3) := by decide +kernel
theorem dd_Mo_say_24 : decode cc_Mo_say 24 = .ok (.aload_n 0, 1) := by decide +kernel
theorem dd_Mo_say_25 : decode cc_Mo_say 25 = .ok (.getfield 112, 3) := by decide +kernel
theorem dd_Mo_say_28 : decode cc_Mo_say 28 = .ok (.iload_n 3, 1) := by decide +kernel
theorem dd_Mo_say_29 : decode cc_Mo_say 29 = .ok (.iastore, 1) := by decide +kernel
theorem dd_Mo_say_30 : decode cc_Mo_say 30 = .ok (.aload_n 0, 1) := by decide +kernel
theorem dd_Mo_say_31 : decode cc_Mo_say 31 = .ok (.dup, 1) := by decide +kernel
theorem dd_Mo_say_32 : decode cc_Mo_say 32 = .ok (.getfield 112, 3) := by decide +kernel
theorem dd_Mo_say_35 : decode cc_Mo_say 35 = .ok (.iconst 1, 1) := by decide +kernel
theorem dd_Mo_say_36 : decode cc_Mo_say 36 = .ok (.iadd, 1) := by decide +kernel
theorem dd_Mo_say_37 : decode cc_Mo_say 37 = .ok (.putfield 112, 3) := by decide +kernel
theorem dd_Mo_say_40 : decode cc_Mo_say 40 = .ok (.aload_n 0, 1) := by decide +kernel
theorem dd_Mo_say_41 : decode cc_Mo_say 41 = .ok (.getfield 112, 3) := by decide +kernel
theorem dd_Mo_say_44 : decode cc_Mo_say 44 = .ok (.iconst 1, 1) := by decide +kernel
theorem dd_Mo_say_45 : decode cc_Mo_say 45 = .ok (.isub, 1) := by decide +kernel
theorem dd_Mo_say_46 : decode cc_Mo_say 46 = .ok (.ireturn, 1) := by decide +kernel
theorem dd_Mo_act_0 : decode cc_Mo_act 0 = .ok (.iconst 0, 1) := by decide +kernel
theorem dd_Mo_act_1 : decode cc_Mo_act 1 = .ok (.istore_n 2, 1) := by decide +kernel
theorem dd_Mo_act_2 : decode cc_Mo_act 2 = .ok (.iload_n 2, 1) := by decide +kernel
theorem dd_Mo_act_3 : decode cc_Mo_act 3 = .ok (.sipush 1000, 3) := by decide +kernel
theorem dd_Mo_act_6 : decode cc_Mo_act 6 = .ok (.if_icmp .ge 93, 3) := by decide +kernel
theorem dd_Mo_act_9 : decode cc_Mo_act 9 = .ok (.aload_n 0, 1) := by decide +kernel
theorem dd_Mo_act_10 : decode cc_Mo_act 10 = .ok (.getfield 50, 3) := by decide +kernel
theorem dd_Mo_act_13 : decode cc_Mo_act 13 = .ok (.iload_n 1, 1) := by decide +kernel
theorem dd_Mo_act_14 : decode cc_Mo_act 14 = .ok (.iaload, 1) := by decide +kernel
theorem dd_Mo_act_15 : decode cc_Mo_act 15 = .ok (.iconst 1, 1) := by decide +kernel
theorem dd_Mo_act_16 : decode cc_Mo_act 16 = .ok (.if_icmp .ne 83, 3) := by decide +kernel
theorem dd_Mo_act_19 : decode cc_Mo_act 19 = .ok (.aload_n 0, 1) := by decide +kernel
theorem dd_Mo_act_20 : decode cc_Mo_act 20 = .ok (.iload_n 1, 1) := by decide +kernel
theorem dd_Mo_act_21 : decode cc_Mo_act 21 = .ok (.invokevirtual 137, 3) := by decide +kernel
theorem dd_Mo_act_24 : decode cc_Mo_act 24 = .ok (.istore_n 3, 1) := by decide +kernel
theorem dd_Mo_act_25 : decode cc_Mo_act 25 = .ok (.iload_n 3, 1) := by decide +kernel
theorem dd_Mo_act_26 : decode cc_Mo_act 26 = .ok (.ifCond .ge 11, 3) := by decide +kernel
theorem dd_Mo_act_29 : decode cc_Mo_act 29 = .ok (.aload_n 0, 1) := by decide +kernel
theorem dd_Mo_act_30 : decode cc_Mo_act 30 = .ok (.iload_n 1, 1) := by decide +kernel
theorem dd_Mo_act_31 : decode cc_Mo_act 31 = .ok (.invokevirtual 140, 3) := by decide +kernel
theorem dd_Mo_act_34 : decode cc_Mo_act 34 = .ok (.goto 4, 3) := by decide +kernel
theorem dd_Mo_act_37 : decode cc_Mo_act 37 = .ok (.iconst 0, 1) := by decide +kernel
theorem dd_Mo_act_38 : decode cc_Mo_act 38 = .ok (.istore 4, 2) := by decide +kernel
theorem dd_Mo_act_40 : decode cc_Mo_act 40 = .ok (.iload_n 3, 1) := by decide +kernel
theorem dd_Mo_act_41 : decode cc_Mo_act 41 = .ok (.ifCond .lt 20, 3) := by decide +kernel
theorem dd_Mo_act_44 : decode cc_Mo_act 44 = .ok (.aload_n 0, 1) := by decide +kernel
theorem dd_Mo_act_45 : decode cc_Mo_act 45 = .ok (.getfield 77, 3) := by decide +kernel
theorem dd_Mo_act_48 : decode cc_Mo_act 48 = .ok (.aload_n 0, 1) := by decide +kernel
theorem dd_Mo_act_49 : decode cc_Mo_act 49 = .ok (.iload_n 1, 1) := by decide +kernel
theorem dd_Mo_act_50 : decode cc_Mo_act 50 = .ok (.iload_n 3, 1) := by decide +kernel
theorem dd_Mo_act_51 : decode cc_Mo_act 51 = .ok (.invokevirtual 123, 3) := by decide +kernel
theorem dd_Mo_act_54 : decode cc_Mo_act 54 = .ok (.iload_n 3, 1) := by decide +kernel
theorem dd_Mo_act_55 : decode cc_Mo_act 55 = .ok (.iconst 1, 1) := by decide +kernel
theorem dd_Mo_act_56 : decode cc_Mo_act 56 = .ok (.iadd, 1) := by decide +kernel
theorem dd_Mo_act_57 : decode cc_Mo_act 57 = .ok (.iastore, 1) := by decide +kernel
theorem dd_Mo_act_58 : decode cc_Mo_act 58 = .ok (.goto 35, 3) := by decide +kernel
theorem dd_Mo_act_61 : decode cc_Mo_act 61 = .ok (.iload 4, 2) := by decide +kernel
theorem dd_Mo_act_63 : decode cc_Mo_act 63 = .ok (.ifCond .le 13, 3) := by decide +kernel
theorem dd_Mo_act_66 : decode cc_Mo_act 66 = .ok (.aload_n 0, 1) := by decide +kernel
theorem dd_Mo_act_67 : decode cc_Mo_act 67 = .ok (.iload_n 1, 1) := by decide +kernel
theorem dd_Mo_act_68 : decode cc_Mo_act 68 = .ok (.iload 4, 2) := by decide +kernel
theorem dd_Mo_act_70 : decode cc_Mo_act 70 = .ok (.invokevirtual 143, 3) := by decide +kernel
theorem dd_Mo_act_73 : decode cc_Mo_act 73 = .ok (.goto 20, 3) := by decide +kernel
theorem dd_Mo_act_76 : decode cc_Mo_act 76 = .ok (.aload_n 0, 1) := by decide +kernel
theorem dd_Mo_act_77 : decode cc_Mo_act 77 = .ok (.iload_n 1, 1) := by decide +kernel
theorem dd_Mo_act_78 : decode cc_Mo_act 78 = .ok (.invokevirtual 147, 3) := by decide +kernel
theorem dd_Mo_act_81 : decode cc_Mo_act 81 = .ok (.ifCond .eq 11, 3) := by decide +kernel
theorem dd_Mo_act_84 : decode cc_Mo_act 84 = .ok (.aload_n 0, 1) := by decide +kernel
theorem dd_Mo_act_85 : decode cc_Mo_act 85 = .ok (.iload_n 1, 1) := by decide +kernel
theorem dd_Mo_act_86 : decode cc_Mo_act 86 = .ok (.invokevirtual 150, 3) := by decide +kernel
theorem dd_Mo_act_89 : decode cc_Mo_act 89 = .ok (.goto 4, 3) := by decide +kernel
theorem dd_Mo_act_92 : decode cc_Mo_act 92 = .ok (.return_, 1) := by decide +kernel
theorem dd_Mo_act_93 : decode cc_Mo_act 93 = .ok (.iinc 2 1, 3) := by decide +kernel
theorem dd_Mo_act_96 : decode cc_Mo_act 96 = .ok (.goto (-94), 3) := by decide +kernel
theorem dd_Mo_act_99 : decode cc_Mo_act 99 = .ok (.return_, 1) := by decide +kernel
theorem dd_Mo_insertable_0 : decode cc_Mo_insertable 0 = .ok (.iconst (-1), 1) := by decide +kernel
theorem dd_Mo_insertable_1 : decode cc_Mo_insertable 1 = .ok (.istore_n 2, 1) := by decide +kernel
theorem dd_Mo_insertable_2 : decode cc_Mo_insertable 2 = .ok (.iconst 0, 1) := by decide +kernel
theorem dd_Mo_insertable_3 : decode cc_Mo_insertable 3 = .ok (.istore_n 3, 1) := by decide +kernel
theorem dd_Mo_insertable_4 : decode cc_Mo_insertable 4 = .ok (.iload_n 3, 1) := by decide +kernel
theorem dd_Mo_insertable_5 : decode cc_Mo_insertable 5 = .ok (.aload_n 0, 1) := by decide +kernel
theorem dd_Mo_insertable_6 : decode cc_Mo_insertable 6 = .ok (.getfield 153, 3) := by decide +kernel
theorem dd_Mo_insertable_9 : decode cc_Mo_insertable 9 = .ok (.if_icmp .ge 125, 3) := by decide +kernel
theorem dd_Mo_insertable_12 : decode cc_Mo_insertable 12 = .ok (.aload_n 0, 1) := by decide +kernel
theorem dd_Mo_insertable_13 : decode cc_Mo_insertable 13 = .ok (.getfield 83, 3) := by decide +kernel
theorem dd_Mo_insertable_16 : decode cc_Mo_insertable 16 = .ok (.bipush 90, 2) := by decide +kernel
theorem dd_Mo_insertable_18 : decode cc_Mo_insertable 18 = .ok (.iload_n 1, 1) := by decide +kernel
theorem dd_Mo_insertable_19 : decode cc_Mo_insertable 19 = .ok (.imul, 1) := by decide +kernel
theorem dd_Mo_insertable_20 : decode cc_Mo_insertable 20 = .ok (.iload_n 3, 1) := by decide +kernel
theorem dd_Mo_insertable_21 : decode cc_Mo_insertable 21 = .ok (.iadd, 1) := by decide +kernel
theorem dd_Mo_insertable_22 : decode cc_Mo_insertable 22 = .ok (.iaload, 1) := by decide +kernel
theorem dd_Mo_insertable_23 : decode cc_Mo_insertable 23 = .ok (.invokestatic 115, 3) := by decide +kernel
theorem dd_Mo_insertable_26 : decode cc_Mo_insertable 26 = .ok (.iconst 3, 1) := by decide +kernel
theorem dd_Mo_insertable_27 : decode cc_Mo_insertable 27 = .ok (.if_icmp .lt 54, 3) := by decide +kernel
theorem dd_Mo_insertable_30 : decode cc_Mo_insertable 30 = .ok (.aload_n 0, 1) := by decide +kernel
theorem dd_Mo_insertable_31 : decode cc_Mo_insertable 31 = .ok (.getfield 77, 3) := by decide +kernel
theorem dd_Mo_insertable_34 : decode cc_Mo_insertable 34 = .ok (.aload_n 0, 1) := by decide +kernel
theorem dd_Mo_insertable_35 : decode cc_Mo_insertable 35 = .ok (.iload_n 1, 1) := by decide +kernel
theorem dd_Mo_insertable_36 : decode cc_Mo_insertable 36 = .ok (.iload_n 3, 1) := by decide +kernel
theorem dd_Mo_insertable_37 : decode cc_Mo_insertable 37 = .ok (.invokevirtual 123, 3) := by decide +kernel
theorem dd_Mo_insertable_40 : decode cc_Mo_insertable 40 = .ok (.iaload, 1) := by decide +kernel
theorem dd_Mo_insertable_41 : decode cc_Mo_insertable 41 = .ok (.ifCond .ne 40, 3) := by decide +kernel
theorem dd_Mo_insertable_44 : decode cc_Mo_insertable 44 = .ok (.aload_n 0, 1) := by decide +kernel
theorem dd_Mo_insertable_45 : decode cc_Mo_insertable 45 = .ok (.iload_n 3, 1) := by decide +kernel
theorem dd_Mo_insertable_46 : decode cc_Mo_insertable 46 = .ok (.invokevirtual 119, 3) := by decide +kernel
theorem dd_Mo_insertable_49 : decode cc_Mo_insertable 49 = .ok (.ifCond .eq 32, 3) := by decide +kernel
theorem dd_Mo_insertable_52 : decode cc_Mo_insertable 52 = .ok (.aload_n 0, 1) := by decide +kernel
theorem dd_Mo_insertable_53 : decode cc_Mo_insertable 53 = .ok (.getfield 32, 3) := by decide +kernel
theorem dd_Mo_insertable_56 : decode cc_Mo_insertable 56 = .ok (.iload_n 3, 1) := by decide +kernel
theorem dd_Mo_insertable_57 : decode cc_Mo_insertable 57 = .ok (.iaload, 1) := by decide +kernel
theorem dd_Mo_insertable_58 : decode cc_Mo_insertable 58 = .ok (.aload_n 0, 1) := by decide +kernel
theorem dd_Mo_insertable_59 : decode cc_Mo_insertable 59 = .ok (.iload_n 1, 1) := by decide +kernel
theorem dd_Mo_insertable_60 : decode cc_Mo_insertable 60 = .ok (.aload_n 0, 1) := by decide +kernel
theorem dd_Mo_insertable_61 : decode cc_Mo_insertable 61 = .ok (.getfield 29, 3) := by decide +kernel
theorem dd_Mo_insertable_64 : decode cc_Mo_insertable 64 = .ok (.iload_n 3, 1) := by decide +kernel
theorem dd_Mo_insertable_65 : decode cc_Mo_insertable 65 = .ok (.iaload, 1) := by decide +kernel
theorem dd_Mo_insertable_66 : decode cc_Mo_insertable 66 = .ok (.iconst 1, 1) := by decide +kernel
theorem dd_Mo_insertable_67 : decode cc_Mo_insertable 67 = .ok (.isub, 1) := by decide +kernel
theorem dd_Mo_insertable_68 : decode cc_Mo_insertable 68 = .ok (.invokevirtual 156, 3) := by decide +kernel
theorem dd_Mo_insertable_71 : decode cc_Mo_insertable 71 = .ok (.iconst (-1), 1) := by decide +kernel
theorem dd_Mo_insertable_72 : decode cc_Mo_insertable 72 = .ok (.ixor, 1) := by decide +kernel
theorem dd_Mo_insertable_73 : decode cc_Mo_insertable 73 = .ok (.iand, 1) := by decide +kernel
theorem dd_Mo_insertable_74 : decode cc_Mo_insertable 74 = .ok (.ifCond .ne 7, 3) := by decide +kernel
theorem dd_Mo_insertable_77 : decode cc_Mo_insertable 77 = .ok (.iconst 1, 1) := by decide +kernel
theorem dd_Mo_insertable_78 : decode cc_Mo_insertable 78 = .ok (.goto 4, 3) := by decide +kernel
theorem dd_Mo_insertable_81 : decode cc_Mo_insertable 81 = .ok (.iconst 0, 1) := by decide +kernel
theorem dd_Mo_insertable_82 : decode cc_Mo_insertable 82 = .ok (.istore 4, 2) := by decide +kernel
theorem dd_Mo_insertable_84 : decode cc_Mo_insertable 84 = .ok (.iload 4, 2) := by decide +kernel
theorem dd_Mo_insertable_86 : decode cc_Mo_insertable 86 = .ok (.ifCond .eq 42, 3) := by decide +kernel
theorem dd_Mo_insertable_89 : decode cc_Mo_insertable 89 = .ok (.iload_n 2, 1) := by decide +kernel
theorem dd_Mo_insertable_90 : decode cc_Mo_insertable 90 = .ok (.ifCond .lt 36, 3) := by decide +kernel
theorem dd_Mo_insertable_93 : decode cc_Mo_insertable 93 = .ok (.iconst 4, 1) := by decide +kernel
theorem dd_Mo_insertable_94 : decode cc_Mo_insertable 94 = .ok (.aload_n 0, 1) := by decide +kernel
theorem dd_Mo_insertable_95 : decode cc_Mo_insertable 95 = .ok (.getfield 29, 3) := by decide +kernel
theorem dd_Mo_insertable_98 : decode cc_Mo_insertable 98 = .ok (.iload_n 3, 1) := by decide +kernel
theorem dd_Mo_insertable_99 : decode cc_Mo_insertable 99 = .ok (.iaload, 1) := by decide +kernel
theorem dd_Mo_insertable_100 : decode cc_Mo_insertable 100 = .ok (.imul, 1) := by decide +kernel
theorem dd_Mo_insertable_101 : decode cc_Mo_insertable 101 = .ok (.aload_n 0, 1) := by decide +kernel
theorem dd_Mo_insertable_102 : decode cc_Mo_insertable 102 = .ok (.getfield 26, 3) := by decide +kernel
theorem dd_Mo_insertable_105 : decode cc_Mo_insertable 105 = .ok (.iload_n 3, 1) := by decide +kernel
theorem dd_Mo_insertable_106 : decode cc_Mo_insertable 106 = .ok (.iaload, 1) := by decide +kernel
theorem dd_Mo_insertable_107 : decode cc_Mo_insertable 107 = .ok (.iadd, 1) := by decide +kernel
theorem dd_Mo_insertable_108 : decode cc_Mo_insertable 108 = .ok (.iconst 4, 1) := by decide +kernel
theorem dd_Mo_insertable_109 : decode cc_Mo_insertable 109 = .ok (.aload_n 0, 1) := by decide +kernel
theorem dd_Mo_insertable_110 : decode cc_Mo_insertable 110 = .ok (.getfield 29, 3) := by decide +kernel
theorem dd_Mo_insertable_113 : decode cc_Mo_insertable 113 = .ok (.iload_n 2, 1) := by decide +kernel
theorem dd_Mo_insertable_114 : decode cc_Mo_insertable 114 = .ok (.iaload, 1) := by decide +kernel
theorem dd_Mo_insertable_115 : decode cc_Mo_insertable 115 = .ok (.imul, 1) := by decide +kernel
theorem dd_Mo_insertable_116 : decode cc_Mo_insertable 116 = .ok (.aload_n 0, 1) := by decide +kernel
theorem dd_Mo_insertable_117 : decode cc_Mo_insertable 117 = .ok (.getfield 26, 3) := by decide +kernel
theorem dd_Mo_insertable_120 : decode cc_Mo_insertable 120 = .ok (.iload_n 2, 1) := by decide +kernel
theorem dd_Mo_insertable_121 : decode cc_Mo_insertable 121 = .ok (.iaload, 1) := by decide +kernel
theorem dd_Mo_insertable_122 : decode cc_Mo_insertable 122 = .ok (.iadd, 1) := by decide +kernel
theorem dd_Mo_insertable_123 : decode cc_Mo_insertable 123 = .ok (.if_icmp .ge 5, 3) := by decide +kernel
theorem dd_Mo_insertable_126 : decode cc_Mo_insertable 126 = .ok (.iload_n 3, 1) := by decide +kernel
theorem dd_Mo_insertable_127 : decode cc_Mo_insertable 127 = .ok (.istore_n 2, 1) := by decide +kernel
theorem dd_Mo_insertable_128 : decode cc_Mo_insertable 128 = .ok (.iinc 3 1, 3) := by decide +kernel
theorem dd_Mo_insertable_131 : decode cc_Mo_insertable 131 = .ok (.goto (-127), 3) := by decide +kernel
theorem dd_Mo_insertable_134 : decode cc_Mo_insertable 134 = .ok (.iload_n 2, 1) := by decide +kernel
theorem dd_Mo_insertable_135 : decode cc_Mo_insertable 135 = .ok (.ireturn, 1) := by decide +kernel
theorem dd_Mo_there_0 : decode cc_Mo_there 0 = .ok (.iconst 0, 1) := by decide +kernel
theorem dd_Mo_there_1 : decode cc_Mo_there 1 = .ok (.istore_n 3, 1) := by decide +kernel
theorem dd_Mo_there_2 : decode cc_Mo_there 2 = .ok (.iconst 0, 1) := by decide +kernel
theorem dd_Mo_there_3 : decode cc_Mo_there 3 = .ok (.istore 4, 2) := by decide +kernel
theorem dd_Mo_there_5 : decode cc_Mo_there 5 = .ok (.iload 4, 2) := by decide +kernel
theorem dd_Mo_there_7 : decode cc_Mo_there 7 = .ok (.iconst 4, 1) := by decide +kernel
theorem dd_Mo_there_8 : decode cc_Mo_there 8 = .ok (.if_icmp .ge 43, 3) := by decide +kernel
theorem dd_Mo_there_11 : decode cc_Mo_there 11 = .ok (.iload_n 2, 1) := by decide +kernel
theorem dd_Mo_there_12 : decode cc_Mo_there 12 = .ok (.ifCond .le 31, 3) := by decide +kernel
theorem dd_Mo_there_15 : decode cc_Mo_there 15 = .ok (.aload_n 0, 1) := by decide +kernel
theorem dd_Mo_there_16 : decode cc_Mo_there 16 = .ok (.getfield 77, 3) := by decide +kernel
theorem dd_Mo_there_19 : decode cc_Mo_there 19 = .ok (.bipush 60, 2) := by decide +kernel
theorem dd_Mo_there_21 : decode cc_Mo_there 21 = .ok (.iload_n 1, 1) := by decide +kernel
theorem dd_Mo_there_22 : decode cc_Mo_there 22 = .ok (.imul, 1) := by decide +kernel
theorem dd_Mo_there_23 : decode cc_Mo_there 23 = .ok (.iconst 4, 1) := by decide +kernel
theorem dd_Mo_there_24 : decode cc_Mo_there 24 = .ok (.iload_n 2, 1) := by decide +kernel
theorem dd_Mo_there_25 : decode cc_Mo_there 25 = .ok (.imul, 1) := by decide +kernel
theorem dd_Mo_there_26 : decode cc_Mo_there 26 = .ok (.iadd, 1) := by decide +kernel
theorem dd_Mo_there_27 : decode cc_Mo_there 27 = .ok (.iload 4, 2) := by decide +kernel
theorem dd_Mo_there_29 : decode cc_Mo_there 29 = .ok (.iadd, 1) := by decide +kernel
theorem dd_Mo_there_30 : decode cc_Mo_there 30 = .ok (.iaload, 1) := by decide +kernel
theorem dd_Mo_there_31 : decode cc_Mo_there 31 = .ok (.ifCond .le 12, 3) := by decide +kernel
theorem dd_Mo_there_34 : decode cc_Mo_there 34 = .ok (.iload_n 3, 1) := by decide +kernel
theorem dd_Mo_there_35 : decode cc_Mo_there 35 = .ok (.iconst 1, 1) := by decide +kernel
theorem dd_Mo_there_36 : decode cc_Mo_there 36 = .ok (.iload 4, 2) := by decide +kernel
theorem dd_Mo_there_38 : decode cc_Mo_there 38 = .ok (.ishl, 1) := by decide +kernel
theorem dd_Mo_there_39 : decode cc_Mo_there 39 = .ok (.ior, 1) := by decide +kernel
theorem dd_Mo_there_40 : decode cc_Mo_there 40 = .ok (.goto 4, 3) := by decide +kernel
theorem dd_Mo_there_43 : decode cc_Mo_there 43 = .ok (.iload_n 3, 1) := by decide +kernel
theorem dd_Mo_there_44 : decode cc_Mo_there 44 = .ok (.istore_n 3, 1) := by decide +kernel
theorem dd_Mo_there_45 : decode cc_Mo_there 45 = .ok (.iinc 4 1, 3) := by decide +kernel
theorem dd_Mo_there_48 : decode cc_Mo_there 48 = .ok (.goto (-43), 3) := by decide +kernel
theorem dd_Mo_there_51 : decode cc_Mo_there 51 = .ok (.iload_n 3, 1) := by decide +kernel
theorem dd_Mo_there_52 : decode cc_Mo_there 52 = .ok (.ireturn, 1) := by decide +kernel
theorem dd_Mo_committable_0 : decode cc_Mo_committable 0 = .ok (.aload_n 0, 1) := by decide +kernel
theorem dd_Mo_committable_1 : decode cc_Mo_committable 1 = .ok (.getfield 74, 3) := by decide +kernel
theorem dd_Mo_committable_4 : decode cc_Mo_committable 4 = .ok (.iload_n 1, 1) := by decide +kernel
theorem dd_Mo_committable_5 : decode cc_Mo_committable 5 = .ok (.iaload, 1) := by decide +kernel
theorem dd_Mo_committable_6 : decode cc_Mo_committable 6 = .ok (.iconst 2, 1) := by decide +kernel
theorem dd_Mo_committable_7 : decode cc_Mo_committable 7 = .ok (.iadd, 1) := by decide +kernel
theorem dd_Mo_committable_8 : decode cc_Mo_committable 8 = .ok (.istore_n 2, 1) := by decide +kernel
theorem dd_Mo_committable_9 : decode cc_Mo_committable 9 = .ok (.iload_n 2, 1) := by decide +kernel
theorem dd_Mo_committable_10 : decode cc_Mo_committable 10 = .ok (.bipush 14, 2) := by decide +kernel
theorem dd_Mo_committable_12 : decode cc_Mo_committable 12 = .ok (.if_icmp .ge 95, 3) := by decide +kernel
theorem dd_Mo_committable_15 : decode cc_Mo_committable 15 = .ok (.iconst 0, 1) := by decide +kernel
theorem dd_Mo_committable_16 : decode cc_Mo_committable 16 = .ok (.istore_n 3, 1) := by decide +kernel
theorem dd_Mo_committable_17 : decode cc_Mo_committable 17 = .ok (.iconst 0, 1) := by decide +kernel
theorem dd_Mo_committable_18 : decode cc_Mo_committable 18 = .ok (.istore 4, 2) := by decide +kernel
theorem dd_Mo_committable_20 : decode cc_Mo_committable 20 = .ok (.iload 4, 2) := by decide +kernel
theorem dd_Mo_committable_22 : decode cc_Mo_committable 22 = .ok (.iconst 4, 1) := by decide +kernel
theorem dd_Mo_committable_23 : decode cc_Mo_committable 23 = .ok (.if_icmp .ge 62, 3) := by decide +kernel
theorem dd_Mo_committable_26 : decode cc_Mo_committable 26 = .ok (.aload_n 0, 1) := by decide +kernel
theorem dd_Mo_committable_27 : decode cc_Mo_committable 27 = .ok (.getfield 77, 3) := by decide +kernel
theorem dd_Mo_committable_30 : decode cc_Mo_committable 30 = .ok (.bipush 60, 2) := by decide +kernel
theorem dd_Mo_committable_32 : decode cc_Mo_committable 32 = .ok (.iload_n 1, 1) := by decide +kernel
theorem dd_Mo_committable_33 : decode cc_Mo_committable 33 = .ok (.imul, 1) := by decide +kernel
theorem dd_Mo_committable_34 : decode cc_Mo_committable 34 = .ok (.iconst 4, 1) := by decide +kernel
theorem dd_Mo_committable_35 : decode cc_Mo_committable 35 = .ok (.iload_n 2, 1) := by decide +kernel
theorem dd_Mo_committable_36 : decode cc_Mo_committable 36 = .ok (.imul, 1) := by decide +kernel
theorem dd_Mo_committable_37 : decode cc_Mo_committable 37 = .ok (.iadd, 1) := by decide +kernel
theorem dd_Mo_committable_38 : decode cc_Mo_committable 38 = .ok (.iconst 4, 1) := by decide +kernel
theorem dd_Mo_committable_39 : decode cc_Mo_committable 39 = .ok (.iadd, 1) := by decide +kernel
theorem dd_Mo_committable_40 : decode cc_Mo_committable 40 = .ok (.iload 4, 2) := by decide +kernel
theorem dd_Mo_committable_42 : decode cc_Mo_committable 42 = .ok (.iadd, 1) := by decide +kernel
theorem dd_Mo_committable_43 : decode cc_Mo_committable 43 = .ok (.iaload, 1) := by decide +kernel
theorem dd_Mo_committable_44 : decode cc_Mo_committable 44 = .ok (.iconst 1, 1) := by decide +kernel
theorem dd_Mo_committable_45 : decode cc_Mo_committable 45 = .ok (.isub, 1) := by decide +kernel
theorem dd_Mo_committable_46 : decode cc_Mo_committable 46 = .ok (.istore 5, 2) := by decide +kernel
theorem dd_Mo_committable_48 : decode cc_Mo_committable 48 = .ok (.iload_n 3, 1) := by decide +kernel
theorem dd_Mo_committable_49 : decode cc_Mo_committable 49 = .ok (.iload 5, 2) := by decide +kernel
theorem dd_Mo_committable_51 : decode cc_Mo_committable 51 = .ok (.ifCond .lt 25, 3) := by decide +kernel
theorem dd_Mo_committable_54 : decode cc_Mo_committable 54 = .ok (.aload_n 0, 1) := by decide +kernel
theorem dd_Mo_committable_55 : decode cc_Mo_committable 55 = .ok (.getfield 32, 3) := by decide +kernel
theorem dd_Mo_committable_58 : decode cc_Mo_committable 58 = .ok (.iload 5, 2) := by decide +kernel
theorem dd_Mo_committable_60 : decode cc_Mo_committable 60 = .ok (.iaload, 1) := by decide +kernel
theorem dd_Mo_committable_61 : decode cc_Mo_committable 61 = .ok (.iload_n 2, 1) := by decide +kernel
theorem dd_Mo_committable_62 : decode cc_Mo_committable 62 = .ok (.invokestatic 159, 3) := by decide +kernel
theorem dd_Mo_committable_65 : decode cc_Mo_committable 65 = .ok (.ishr, 1) := by decide +kernel
theorem dd_Mo_committable_66 : decode cc_Mo_committable 66 = .ok (.iconst 1, 1) := by decide +kernel
theorem dd_Mo_committable_67 : decode cc_Mo_committable 67 = .ok (.iand, 1) := by decide +kernel
theorem dd_Mo_committable_68 : decode cc_Mo_committable 68 = .ok (.iconst 1, 1) := by decide +kernel
theorem dd_Mo_committable_69 : decode cc_Mo_committable 69 = .ok (.if_icmp .ne 7, 3) := by decide +kernel
theorem dd_Mo_committable_72 : decode cc_Mo_committable 72 = .ok (.iconst 1, 1) := by decide +kernel
theorem dd_Mo_committable_73 : decode cc_Mo_committable 73 = .ok (.goto 4, 3) := by decide +kernel
theorem dd_Mo_committable_76 : decode cc_Mo_committable 76 = .ok (.iconst 0, 1) := by decide +kernel
theorem dd_Mo_committable_77 : decode cc_Mo_committable 77 = .ok (.iadd, 1) := by decide +kernel
theorem dd_Mo_committable_78 : decode cc_Mo_committable 78 = .ok (.istore_n 3, 1) := by decide +kernel
theorem dd_Mo_committable_79 : decode cc_Mo_committable 79 = .ok (.iinc 4 1, 3) := by decide +kernel
theorem dd_Mo_committable_82 : decode cc_Mo_committable 82 = .ok (.goto (-62), 3) := by decide +kernel
theorem dd_Mo_committable_85 : decode cc_Mo_committable 85 = .ok (.aload_n 0, 1) := by decide +kernel
theorem dd_Mo_committable_86 : decode cc_Mo_committable 86 = .ok (.iload_n 1, 1) := by decide +kernel
theorem dd_Mo_committable_87 : decode cc_Mo_committable 87 = .ok (.iload_n 2, 1) := by decide +kernel
theorem dd_Mo_committable_88 : decode cc_Mo_committable 88 = .ok (.invokevirtual 162, 3) := by decide +kernel
theorem dd_Mo_committable_91 : decode cc_Mo_committable 91 = .ok (.ifCond .eq 10, 3) := by decide +kernel
theorem dd_Mo_committable_94 : decode cc_Mo_committable 94 = .ok (.iload_n 3, 1) := by decide +kernel
theorem dd_Mo_committable_95 : decode cc_Mo_committable 95 = .ok (.iconst 2, 1) := by decide +kernel
theorem dd_Mo_committable_96 : decode cc_Mo_committable 96 = .ok (.if_icmp .lt 5, 3) := by decide +kernel
theorem dd_Mo_committable_99 : decode cc_Mo_committable 99 = .ok (.iload_n 2, 1) := by decide +kernel
theorem dd_Mo_committable_100 : decode cc_Mo_committable 100 = .ok (.ireturn, 1) := by decide +kernel
theorem dd_Mo_committable_101 : decode cc_Mo_committable 101 = .ok (.iinc 2 2, 3) := by decide +kernel
theorem dd_Mo_committable_104 : decode cc_Mo_committable 104 = .ok (.goto (-95), 3) := by decide +kernel
theorem dd_Mo_committable_107 : decode cc_Mo_committable 107 = .ok (.iconst 0, 1) := by decide +kernel
theorem dd_Mo_committable_108 : decode cc_Mo_committable 108 = .ok (.ireturn, 1) := by decide +kernel
theorem dd_Mo_leader_0 : decode cc_Mo_leader 0 = .ok (.iload_n 0, 1) := by decide +kernel
theorem dd_Mo_leader_1 : decode cc_Mo_leader 1 = .ok (.iconst 2, 1) := by decide +kernel
theorem dd_Mo_leader_2 : decode cc_Mo_leader 2 = .ok (.idiv, 1) := by decide +kernel
theorem dd_Mo_leader_3 : decode cc_Mo_leader 3 = .ok (.iconst 4, 1) := by decide +kernel
theorem dd_Mo_leader_4 : decode cc_Mo_leader 4 = .ok (.irem, 1) := by decide +kernel
theorem dd_Mo_leader_5 : decode cc_Mo_leader 5 = .ok (.ireturn, 1) := by decide +kernel
theorem dd_Mo_hasLeader_0 : decode cc_Mo_hasLeader 0 = .ok (.aload_n 0, 1) := by decide +kernel
theorem dd_Mo_hasLeader_1 : decode cc_Mo_hasLeader 1 = .ok (.getfield 77, 3) := by decide +kernel
theorem dd_Mo_hasLeader_4 : decode cc_Mo_hasLeader 4 = .ok (.bipush 60, 2) := by decide +kernel
theorem dd_Mo_hasLeader_6 : decode cc_Mo_hasLeader 6 = .ok (.iload_n 1, 1) := by decide +kernel
theorem dd_Mo_hasLeader_7 : decode cc_Mo_hasLeader 7 = .ok (.imul, 1) := by decide +kernel
theorem dd_Mo_hasLeader_8 : decode cc_Mo_hasLeader 8 = .ok (.iconst 4, 1) := by decide +kernel
theorem dd_Mo_hasLeader_9 : decode cc_Mo_hasLeader 9 = .ok (.iload_n 2, 1) := by decide +kernel
theorem dd_Mo_hasLeader_10 : decode cc_Mo_hasLeader 10 = .ok (.imul, 1) := by decide +kernel
theorem dd_Mo_hasLeader_11 : decode cc_Mo_hasLeader 11 = .ok (.iadd, 1) := by decide +kernel
theorem dd_Mo_hasLeader_12 : decode cc_Mo_hasLeader 12 = .ok (.iload_n 2, 1) := by decide +kernel
theorem dd_Mo_hasLeader_13 : decode cc_Mo_hasLeader 13 = .ok (.invokestatic 159, 3) := by decide +kernel
theorem dd_Mo_hasLeader_16 : decode cc_Mo_hasLeader 16 = .ok (.iadd, 1) := by decide +kernel
theorem dd_Mo_hasLeader_17 : decode cc_Mo_hasLeader 17 = .ok (.iaload, 1) := by decide +kernel
theorem dd_Mo_hasLeader_18 : decode cc_Mo_hasLeader 18 = .ok (.ifCond .le 7, 3) := by decide +kernel
theorem dd_Mo_hasLeader_21 : decode cc_Mo_hasLeader 21 = .ok (.iconst 1, 1) := by decide +kernel
theorem dd_Mo_hasLeader_22 : decode cc_Mo_hasLeader 22 = .ok (.goto 4, 3) := by decide +kernel
theorem dd_Mo_hasLeader_25 : decode cc_Mo_hasLeader 25 = .ok (.iconst 0, 1) := by decide +kernel
theorem dd_Mo_hasLeader_26 : decode cc_Mo_hasLeader 26 = .ok (.ireturn, 1) := by decide +kernel
theorem dd_Mo_commit_0 : decode cc_Mo_commit 0 = .ok (.iconst 1, 1) := by decide +kernel
theorem dd_Mo_commit_1 : decode cc_Mo_commit 1 = .ok (.iload_n 2, 1) := by decide +kernel
theorem dd_Mo_commit_2 : decode cc_Mo_commit 2 = .ok (.ishl, 1) := by decide +kernel
theorem dd_Mo_commit_3 : decode cc_Mo_commit 3 = .ok (.istore_n 3, 1) := by decide +kernel
theorem dd_Mo_commit_4 : decode cc_Mo_commit 4 = .ok (.iload_n 2, 1) := by decide +kernel
theorem dd_Mo_commit_5 : decode cc_Mo_commit 5 = .ok (.istore 4, 2) := by decide +kernel
theorem dd_Mo_commit_7 : decode cc_Mo_commit 7 = .ok (.iload_n 2, 1) := by decide +kernel
theorem dd_Mo_commit_8 : decode cc_Mo_commit 8 = .ok (.iconst 2, 1) := by decide +kernel
theorem dd_Mo_commit_9 : decode cc_Mo_commit 9 = .ok (.isub, 1) := by decide +kernel
theorem dd_Mo_commit_10 : decode cc_Mo_commit 10 = .ok (.istore 5, 2) := by decide +kernel
theorem dd_Mo_commit_12 : decode cc_Mo_commit 12 = .ok (.iload 5, 2) := by decide +kernel
theorem dd_Mo_commit_14 : decode cc_Mo_commit 14 = .ok (.aload_n 0, 1) := by decide +kernel
theorem dd_Mo_commit_15 : decode cc_Mo_commit 15 = .ok (.getfield 74, 3) := by decide +kernel
theorem dd_Mo_commit_18 : decode cc_Mo_commit 18 = .ok (.iload_n 1, 1) := by decide +kernel
theorem dd_Mo_commit_19 : decode cc_Mo_commit 19 = .ok (.iaload, 1) := by decide +kernel
theorem dd_Mo_commit_20 : decode cc_Mo_commit 20 = .ok (.if_icmp .le 51, 3) := by decide +kernel
theorem dd_Mo_commit_23 : decode cc_Mo_commit 23 = .ok (.aload_n 0, 1) := by decide +kernel
theorem dd_Mo_commit_24 : decode cc_Mo_commit 24 = .ok (.iload_n 1, 1) := by decide +kernel
theorem dd_Mo_commit_25 : decode cc_Mo_commit 25 = .ok (.iload 4, 2) := by decide +kernel
theorem dd_Mo_commit_27 : decode cc_Mo_commit 27 = .ok (.iload 4, 2) := by decide +kernel
theorem dd_Mo_commit_29 : decode cc_Mo_commit 29 = .ok (.invokestatic 159, 3) := by decide +kernel
theorem dd_Mo_commit_32 : decode cc_Mo_commit 32 = .ok (.invokevirtual 166, 3) := by decide +kernel
theorem dd_Mo_commit_35 : decode cc_Mo_commit 35 = .ok (.aload_n 0, 1) := by decide +kernel
theorem dd_Mo_commit_36 : decode cc_Mo_commit 36 = .ok (.getfield 98, 3) := by decide +kernel
theorem dd_Mo_commit_39 : decode cc_Mo_commit 39 = .ok (.iload 5, 2) := by decide +kernel
theorem dd_Mo_commit_41 : decode cc_Mo_commit 41 = .ok (.iaload, 1) := by decide +kernel
theorem dd_Mo_commit_42 : decode cc_Mo_commit 42 = .ok (.iload 5, 2) := by decide +kernel
theorem dd_Mo_commit_44 : decode cc_Mo_commit 44 = .ok (.invokestatic 159, 3) := by decide +kernel
theorem dd_Mo_commit_47 : decode cc_Mo_commit 47 = .ok (.ishr, 1) := by decide +kernel
theorem dd_Mo_commit_48 : decode cc_Mo_commit 48 = .ok (.iconst 1, 1) := by decide +kernel
theorem dd_Mo_commit_49 : decode cc_Mo_commit 49 = .ok (.iand, 1) := by decide +kernel
theorem dd_Mo_commit_50 : decode cc_Mo_commit 50 = .ok (.iconst 1, 1) := by decide +kernel
theorem dd_Mo_commit_51 : decode cc_Mo_commit 51 = .ok (.if_icmp .ne 14, 3) := by decide +kernel
theorem dd_Mo_commit_54 : decode cc_Mo_commit 54 = .ok (.iload_n 3, 1) := by decide +kernel
theorem dd_Mo_commit_55 : decode cc_Mo_commit 55 = .ok (.iconst 1, 1) := by decide +kernel
theorem dd_Mo_commit_56 : decode cc_Mo_commit 56 = .ok (.iload 5, 2) := by decide +kernel
theorem dd_Mo_commit_58 : decode cc_Mo_commit 58 = .ok (.ishl, 1) := by decide +kernel
theorem dd_Mo_commit_59 : decode cc_Mo_commit 59 = .ok (.ior, 1) := by decide +kernel
theorem dd_Mo_commit_60 : decode cc_Mo_commit 60 = .ok (.istore_n 3, 1) := by decide +kernel
theorem dd_Mo_commit_61 : decode cc_Mo_commit 61 = .ok (.iload 5, 2) := by decide +kernel
theorem dd_Mo_commit_63 : decode cc_Mo_commit 63 = .ok (.istore 4, 2) := by decide +kernel
theorem dd_Mo_commit_65 : decode cc_Mo_commit 65 = .ok (.iinc 5 (-2), 3) := by decide +kernel
theorem dd_Mo_commit_68 : decode cc_Mo_commit 68 = .ok (.goto (-56), 3) := by decide +kernel
theorem dd_Mo_commit_71 : decode cc_Mo_commit 71 = .ok (.aload_n 0, 1) := by decide +kernel
theorem dd_Mo_commit_72 : decode cc_Mo_commit 72 = .ok (.getfield 74, 3) := by decide +kernel
theorem dd_Mo_commit_75 : decode cc_Mo_commit 75 = .ok (.iload_n 1, 1) := by decide +kernel
theorem dd_Mo_commit_76 : decode cc_Mo_commit 76 = .ok (.iaload, 1) := by decide +kernel
theorem dd_Mo_commit_77 : decode cc_Mo_commit 77 = .ok (.iconst 2, 1) := by decide +kernel
theorem dd_Mo_commit_78 : decode cc_Mo_commit 78 = .ok (.iadd, 1) := by decide +kernel
theorem dd_Mo_commit_79 : decode cc_Mo_commit 79 = .ok (.istore 5, 2) := by decide +kernel
theorem dd_Mo_commit_81 : decode cc_Mo_commit 81 = .ok (.iload 5, 2) := by decide +kernel
theorem dd_Mo_commit_83 : decode cc_Mo_commit 83 = .ok (.iload_n 2, 1) := by decide +kernel
theorem dd_Mo_commit_84 : decode cc_Mo_commit 84 = .ok (.if_icmp .gt 26, 3) := by decide +kernel
theorem dd_Mo_commit_87 : decode cc_Mo_commit 87 = .ok (.iload_n 3, 1) := by decide +kernel
theorem dd_Mo_commit_88 : decode cc_Mo_commit 88 = .ok (.iload 5, 2) := by decide +kernel
theorem dd_Mo_commit_90 : decode cc_Mo_commit 90 = .ok (.ishr, 1) := by decide +kernel
theorem dd_Mo_commit_91 : decode cc_Mo_commit 91 = .ok (.iconst 1, 1) := by decide +kernel
theorem dd_Mo_commit_92 : decode cc_Mo_commit 92 = .ok (.iand, 1) := by decide +kernel
theorem dd_Mo_commit_93 : decode cc_Mo_commit 93 = .ok (.iconst 1, 1) := by decide +kernel
theorem dd_Mo_commit_94 : decode cc_Mo_commit 94 = .ok (.if_icmp .ne 10, 3) := by decide +kernel
theorem dd_Mo_commit_97 : decode cc_Mo_commit 97 = .ok (.aload_n 0, 1) := by decide +kernel
theorem dd_Mo_commit_98 : decode cc_Mo_commit 98 = .ok (.iload_n 1, 1) := by decide +kernel
theorem dd_Mo_commit_99 : decode cc_Mo_commit 99 = .ok (.iload 5, 2) := by decide +kernel
theorem dd_Mo_commit_101 : decode cc_Mo_commit 101 = .ok (.invokevirtual 170, 3) := by decide +kernel
theorem dd_Mo_commit_104 : decode cc_Mo_commit 104 = .ok (.iinc 5 2, 3) := by decide +kernel
theorem dd_Mo_commit_107 : decode cc_Mo_commit 107 = .ok (.goto (-26), 3) := by decide +kernel
theorem dd_Mo_commit_110 : decode cc_Mo_commit 110 = .ok (.aload_n 0, 1) := by decide +kernel
theorem dd_Mo_commit_111 : decode cc_Mo_commit 111 = .ok (.getfield 74, 3) := by decide +kernel
theorem dd_Mo_commit_114 : decode cc_Mo_commit 114 = .ok (.iload_n 1, 1) := by decide +kernel
theorem dd_Mo_commit_115 : decode cc_Mo_commit 115 = .ok (.iload_n 2, 1) := by decide +kernel
theorem dd_Mo_commit_116 : decode cc_Mo_commit 116 = .ok (.iastore, 1) := by decide +kernel
theorem dd_Mo_commit_117 : decode cc_Mo_commit 117 = .ok (.return_, 1) := by decide +kernel
theorem dd_Mo_spread_0 : decode cc_Mo_spread 0 = .ok (.iconst 0, 1) := by decide +kernel
theorem dd_Mo_spread_1 : decode cc_Mo_spread 1 = .ok (.istore 4, 2) := by decide +kernel
theorem dd_Mo_spread_3 : decode cc_Mo_spread 3 = .ok (.iload 4, 2) := by decide +kernel
theorem dd_Mo_spread_5 : decode cc_Mo_spread 5 = .ok (.bipush 16, 2) := by decide +kernel
theorem dd_Mo_spread_7 : decode cc_Mo_spread 7 = .ok (.if_icmp .ge 17, 3) := by decide +kernel
theorem dd_Mo_spread_10 : decode cc_Mo_spread 10 = .ok (.aload_n 0, 1) := by decide +kernel
theorem dd_Mo_spread_11 : decode cc_Mo_spread 11 = .ok (.getfield 98, 3) := by decide +kernel
theorem dd_Mo_spread_14 : decode cc_Mo_spread 14 = .ok (.iload 4, 2) := by decide +kernel
theorem dd_Mo_spread_16 : decode cc_Mo_spread 16 = .ok (.iconst 0, 1) := by decide +kernel
theorem dd_Mo_spread_17 : decode cc_Mo_spread 17 = .ok (.iastore, 1) := by decide +kernel
theorem dd_Mo_spread_18 : decode cc_Mo_spread 18 = .ok (.iinc 4 1, 3) := by decide +kernel
theorem dd_Mo_spread_21 : decode cc_Mo_spread 21 = .ok (.goto (-18), 3) := by decide +kernel
theorem dd_Mo_spread_24 : decode cc_Mo_spread 24 = .ok (.aload_n 0, 1) := by decide +kernel
theorem dd_Mo_spread_25 : decode cc_Mo_spread 25 = .ok (.getfield 98, 3) := by decide +kernel
theorem dd_Mo_spread_28 : decode cc_Mo_spread 28 = .ok (.iload_n 2, 1) := by decide +kernel
theorem dd_Mo_spread_29 : decode cc_Mo_spread 29 = .ok (.iconst 1, 1) := by decide +kernel
theorem dd_Mo_spread_30 : decode cc_Mo_spread 30 = .ok (.iload_n 3, 1) := by decide +kernel
theorem dd_Mo_spread_31 : decode cc_Mo_spread 31 = .ok (.ishl, 1) := by decide +kernel
theorem dd_Mo_spread_32 : decode cc_Mo_spread 32 = .ok (.iastore, 1) := by decide +kernel
theorem dd_Mo_spread_33 : decode cc_Mo_spread 33 = .ok (.iload_n 2, 1) := by decide +kernel
theorem dd_Mo_spread_34 : decode cc_Mo_spread 34 = .ok (.istore 4, 2) := by decide +kernel
theorem dd_Mo_spread_36 : decode cc_Mo_spread 36 = .ok (.iload 4, 2) := by decide +kernel
theorem dd_Mo_spread_38 : decode cc_Mo_spread 38 = .ok (.iconst 1, 1) := by decide +kernel
theorem dd_Mo_spread_39 : decode cc_Mo_spread 39 = .ok (.if_icmp .le 76, 3) := by decide +kernel
theorem dd_Mo_spread_42 : decode cc_Mo_spread 42 = .ok (.iconst 0, 1) := by decide +kernel
theorem dd_Mo_spread_43 : decode cc_Mo_spread 43 = .ok (.istore 5, 2) := by decide +kernel
theorem dd_Mo_spread_45 : decode cc_Mo_spread 45 = .ok (.iload 5, 2) := by decide +kernel
theorem dd_Mo_spread_47 : decode cc_Mo_spread 47 = .ok (.iconst 4, 1) := by decide +kernel
theorem dd_Mo_spread_48 : decode cc_Mo_spread 48 = .ok (.if_icmp .ge 61, 3) := by decide +kernel
theorem dd_Mo_spread_51 : decode cc_Mo_spread 51 = .ok (.aload_n 0, 1) := by decide +kernel
theorem dd_Mo_spread_52 : decode cc_Mo_spread 52 = .ok (.getfield 98, 3) := by decide +kernel
theorem dd_Mo_spread_55 : decode cc_Mo_spread 55 = .ok (.iload 4, 2) := by decide +kernel
theorem dd_Mo_spread_57 : decode cc_Mo_spread 57 = .ok (.iaload, 1) := by decide +kernel
theorem dd_Mo_spread_58 : decode cc_Mo_spread 58 = .ok (.iload 5, 2) := by decide +kernel
theorem dd_Mo_spread_60 : decode cc_Mo_spread 60 = .ok (.ishr, 1) := by decide +kernel
theorem dd_Mo_spread_61 : decode cc_Mo_spread 61 = .ok (.iconst 1, 1) := by decide +kernel
theorem dd_Mo_spread_62 : decode cc_Mo_spread 62 = .ok (.iand, 1) := by decide +kernel
theorem dd_Mo_spread_63 : decode cc_Mo_spread 63 = .ok (.iconst 1, 1) := by decide +kernel
theorem dd_Mo_spread_64 : decode cc_Mo_spread 64 = .ok (.if_icmp .ne 39, 3) := by decide +kernel
theorem dd_Mo_spread_67 : decode cc_Mo_spread 67 = .ok (.aload_n 0, 1) := by decide +kernel
theorem dd_Mo_spread_68 : decode cc_Mo_spread 68 = .ok (.getfield 98, 3) := by decide +kernel
theorem dd_Mo_spread_71 : decode cc_Mo_spread 71 = .ok (.iload 4, 2) := by decide +kernel
theorem dd_Mo_spread_73 : decode cc_Mo_spread 73 = .ok (.iconst 1, 1) := by decide +kernel
theorem dd_Mo_spread_74 : decode cc_Mo_spread 74 = .ok (.isub, 1) := by decide +kernel
theorem dd_Mo_spread_75 : decode cc_Mo_spread 75 = .ok (.dup2, 1) := by decide +kernel
theorem dd_Mo_spread_76 : decode cc_Mo_spread 76 = .ok (.iaload, 1) := by decide +kernel
theorem dd_Mo_spread_77 : decode cc_Mo_spread 77 = .ok (.aload_n 0, 1) := by decide +kernel
theorem dd_Mo_spread_78 : decode cc_Mo_spread 78 = .ok (.getfield 32, 3) := by decide +kernel
theorem dd_Mo_spread_81 : decode cc_Mo_spread 81 = .ok (.aload_n 0, 1) := by decide +kernel
theorem dd_Mo_spread_82 : decode cc_Mo_spread 82 = .ok (.getfield 77, 3) := by decide +kernel
theorem dd_Mo_spread_85 : decode cc_Mo_spread 85 = .ok (.bipush 60, 2) := by decide +kernel
theorem dd_Mo_spread_87 : decode cc_Mo_spread 87 = .ok (.iload_n 1, 1) := by decide +kernel
theorem dd_Mo_spread_88 : decode cc_Mo_spread 88 = .ok (.imul, 1) := by decide +kernel
theorem dd_Mo_spread_89 : decode cc_Mo_spread 89 = .ok (.iconst 4, 1) := by decide +kernel
theorem dd_Mo_spread_90 : decode cc_Mo_spread 90 = .ok (.iload 4, 2) := by decide +kernel
theorem dd_Mo_spread_92 : decode cc_Mo_spread 92 = .ok (.imul, 1) := by decide +kernel
theorem dd_Mo_spread_93 : decode cc_Mo_spread 93 = .ok (.iadd, 1) := by decide +kernel
theorem dd_Mo_spread_94 : decode cc_Mo_spread 94 = .ok (.iload 5, 2) := by decide +kernel
theorem dd_Mo_spread_96 : decode cc_Mo_spread 96 = .ok (.iadd, 1) := by decide +kernel
theorem dd_Mo_spread_97 : decode cc_Mo_spread 97 = .ok (.iaload, 1) := by decide +kernel
theorem dd_Mo_spread_98 : decode cc_Mo_spread 98 = .ok (.iconst 1, 1) := by decide +kernel
theorem dd_Mo_spread_99 : decode cc_Mo_spread 99 = .ok (.isub, 1) := by decide +kernel
theorem dd_Mo_spread_100 : decode cc_Mo_spread 100 = .ok (.iaload, 1) := by decide +kernel
theorem dd_Mo_spread_101 : decode cc_Mo_spread 101 = .ok (.ior, 1) := by decide +kernel
theorem dd_Mo_spread_102 : decode cc_Mo_spread 102 = .ok (.iastore, 1) := by decide +kernel
theorem dd_Mo_spread_103 : decode cc_Mo_spread 103 = .ok (.iinc 5 1, 3) := by decide +kernel
theorem dd_Mo_spread_106 : decode cc_Mo_spread 106 = .ok (.goto (-61), 3) := by decide +kernel
theorem dd_Mo_spread_109 : decode cc_Mo_spread 109 = .ok (.iinc 4 (-1), 3) := by decide +kernel
theorem dd_Mo_spread_112 : decode cc_Mo_spread 112 = .ok (.goto (-76), 3) := by decide +kernel
theorem dd_Mo_spread_115 : decode cc_Mo_spread 115 = .ok (.return_, 1) := by decide +kernel
theorem dd_Mo_emit_0 : decode cc_Mo_emit 0 = .ok (.aload_n 0, 1) := by decide +kernel
theorem dd_Mo_emit_1 : decode cc_Mo_emit 1 = .ok (.iload_n 1, 1) := by decide +kernel
theorem dd_Mo_emit_2 : decode cc_Mo_emit 2 = .ok (.iload_n 2, 1) := by decide +kernel
theorem dd_Mo_emit_3 : decode cc_Mo_emit 3 = .ok (.iload_n 2, 1) := by decide +kernel
theorem dd_Mo_emit_4 : decode cc_Mo_emit 4 = .ok (.invokestatic 159, 3) := by decide +kernel
theorem dd_Mo_emit_7 : decode cc_Mo_emit 7 = .ok (.invokevirtual 166, 3) := by decide +kernel
theorem dd_Mo_emit_10 : decode cc_Mo_emit 10 = .ok (.iconst 1, 1) := by decide +kernel
theorem dd_Mo_emit_11 : decode cc_Mo_emit 11 = .ok (.istore_n 3, 1) := by decide +kernel
theorem dd_Mo_emit_12 : decode cc_Mo_emit 12 = .ok (.iload_n 3, 1) := by decide +kernel
theorem dd_Mo_emit_13 : decode cc_Mo_emit 13 = .ok (.iload_n 2, 1) := by decide +kernel
theorem dd_Mo_emit_14 : decode cc_Mo_emit 14 = .ok (.if_icmp .gt 111, 3) := by decide +kernel
theorem dd_Mo_emit_17 : decode cc_Mo_emit 17 = .ok (.iconst 0, 1) := by decide +kernel
theorem dd_Mo_emit_18 : decode cc_Mo_emit 18 = .ok (.istore 4, 2) := by decide +kernel
theorem dd_Mo_emit_20 : decode cc_Mo_emit 20 = .ok (.iload 4, 2) := by decide +kernel
theorem dd_Mo_emit_22 : decode cc_Mo_emit 22 = .ok (.iconst 4, 1) := by decide +kernel
theorem dd_Mo_emit_23 : decode cc_Mo_emit 23 = .ok (.if_icmp .ge 96, 3) := by decide +kernel
theorem dd_Mo_emit_26 : decode cc_Mo_emit 26 = .ok (.aload_n 0, 1) := by decide +kernel
theorem dd_Mo_emit_27 : decode cc_Mo_emit 27 = .ok (.getfield 77, 3) := by decide +kernel
theorem dd_Mo_emit_30 : decode cc_Mo_emit 30 = .ok (.bipush 60, 2) := by decide +kernel
theorem dd_Mo_emit_32 : decode cc_Mo_emit 32 = .ok (.iload_n 1, 1) := by decide +kernel
theorem dd_Mo_emit_33 : decode cc_Mo_emit 33 = .ok (.imul, 1) := by decide +kernel
theorem dd_Mo_emit_34 : decode cc_Mo_emit 34 = .ok (.iconst 4, 1) := by decide +kernel
theorem dd_Mo_emit_35 : decode cc_Mo_emit 35 = .ok (.iload_n 3, 1) := by decide +kernel
theorem dd_Mo_emit_36 : decode cc_Mo_emit 36 = .ok (.imul, 1) := by decide +kernel
theorem dd_Mo_emit_37 : decode cc_Mo_emit 37 = .ok (.iadd, 1) := by decide +kernel
theorem dd_Mo_emit_38 : decode cc_Mo_emit 38 = .ok (.iload 4, 2) := by decide +kernel
theorem dd_Mo_emit_40 : decode cc_Mo_emit 40 = .ok (.iadd, 1) := by decide +kernel
theorem dd_Mo_emit_41 : decode cc_Mo_emit 41 = .ok (.iaload, 1) := by decide +kernel
theorem dd_Mo_emit_42 : decode cc_Mo_emit 42 = .ok (.iconst 1, 1) := by decide +kernel
theorem dd_Mo_emit_43 : decode cc_Mo_emit 43 = .ok (.isub, 1) := by decide +kernel
theorem dd_Mo_emit_44 : decode cc_Mo_emit 44 = .ok (.istore 5, 2) := by decide +kernel
theorem dd_Mo_emit_46 : decode cc_Mo_emit 46 = .ok (.aload_n 0, 1) := by decide +kernel
theorem dd_Mo_emit_47 : decode cc_Mo_emit 47 = .ok (.getfield 98, 3) := by decide +kernel
theorem dd_Mo_emit_50 : decode cc_Mo_emit 50 = .ok (.iload_n 3, 1) := by decide +kernel
theorem dd_Mo_emit_51 : decode cc_Mo_emit 51 = .ok (.iaload, 1) := by decide +kernel
theorem dd_Mo_emit_52 : decode cc_Mo_emit 52 = .ok (.iload 4, 2) := by decide +kernel
theorem dd_Mo_emit_54 : decode cc_Mo_emit 54 = .ok (.ishr, 1) := by decide +kernel
theorem dd_Mo_emit_55 : decode cc_Mo_emit 55 = .ok (.iconst 1, 1) := by decide +kernel
theorem dd_Mo_emit_56 : decode cc_Mo_emit 56 = .ok (.iand, 1) := by decide +kernel
theorem dd_Mo_emit_57 : decode cc_Mo_emit 57 = .ok (.iconst 1, 1) := by decide +kernel
theorem dd_Mo_emit_58 : decode cc_Mo_emit 58 = .ok (.if_icmp .ne 55, 3) := by decide +kernel
theorem dd_Mo_emit_61 : decode cc_Mo_emit 61 = .ok (.aload_n 0, 1) := by decide +kernel
theorem dd_Mo_emit_62 : decode cc_Mo_emit 62 = .ok (.getfield 86, 3) := by decide +kernel
theorem dd_Mo_emit_65 : decode cc_Mo_emit 65 = .ok (.bipush 90, 2) := by decide +kernel
theorem dd_Mo_emit_67 : decode cc_Mo_emit 67 = .ok (.iload_n 1, 1) := by decide +kernel
theorem dd_Mo_emit_68 : decode cc_Mo_emit 68 = .ok (.imul, 1) := by decide +kernel
theorem dd_Mo_emit_69 : decode cc_Mo_emit 69 = .ok (.iload 5, 2) := by decide +kernel
theorem dd_Mo_emit_71 : decode cc_Mo_emit 71 = .ok (.iadd, 1) := by decide +kernel
theorem dd_Mo_emit_72 : decode cc_Mo_emit 72 = .ok (.baload, 1) := by decide +kernel
theorem dd_Mo_emit_73 : decode cc_Mo_emit 73 = .ok (.ifCond .ne 40, 3) := by decide +kernel
theorem dd_Mo_emit_76 : decode cc_Mo_emit 76 = .ok (.aload_n 0, 1) := by decide +kernel
theorem dd_Mo_emit_77 : decode cc_Mo_emit 77 = .ok (.getfield 86, 3) := by decide +kernel
theorem dd_Mo_emit_80 : decode cc_Mo_emit 80 = .ok (.bipush 90, 2) := by decide +kernel
theorem dd_Mo_emit_82 : decode cc_Mo_emit 82 = .ok (.iload_n 1, 1) := by decide +kernel
theorem dd_Mo_emit_83 : decode cc_Mo_emit 83 = .ok (.imul, 1) := by decide +kernel
theorem dd_Mo_emit_84 : decode cc_Mo_emit 84 = .ok (.iload 5, 2) := by decide +kernel
theorem dd_Mo_emit_86 : decode cc_Mo_emit 86 = .ok (.iadd, 1) := by decide +kernel
theorem dd_Mo_emit_87 : decode cc_Mo_emit 87 = .ok (.iconst 1, 1) := by decide +kernel
theorem dd_Mo_emit_88 : decode cc_Mo_emit 88 = .ok (.bastore, 1) := by decide +kernel
theorem dd_Mo_emit_89 : decode cc_Mo_emit 89 = .ok (.aload_n 0, 1) := by decide +kernel
theorem dd_Mo_emit_90 : decode cc_Mo_emit 90 = .ok (.iload_n 1, 1) := by decide +kernel
theorem dd_Mo_emit_91 : decode cc_Mo_emit 91 = .ok (.aload_n 0, 1) := by decide +kernel
theorem dd_Mo_emit_92 : decode cc_Mo_emit 92 = .ok (.getfield 35, 3) := by decide +kernel
theorem dd_Mo_emit_95 : decode cc_Mo_emit 95 = .ok (.iload 5, 2) := by decide +kernel
theorem dd_Mo_emit_97 : decode cc_Mo_emit 97 = .ok (.iaload, 1) := by decide +kernel
theorem dd_Mo_emit_98 : decode cc_Mo_emit 98 = .ok (.invokevirtual 173, 3) := by decide +kernel
theorem dd_Mo_emit_101 : decode cc_Mo_emit 101 = .ok (.aload_n 0, 1) := by decide +kernel
theorem dd_Mo_emit_102 : decode cc_Mo_emit 102 = .ok (.iload_n 1, 1) := by decide +kernel
theorem dd_Mo_emit_103 : decode cc_Mo_emit 103 = .ok (.aload_n 0, 1) := by decide +kernel
theorem dd_Mo_emit_104 : decode cc_Mo_emit 104 = .ok (.getfield 38, 3) := by decide +kernel
theorem dd_Mo_emit_107 : decode cc_Mo_emit 107 = .ok (.iload 5, 2) := by decide +kernel
theorem dd_Mo_emit_109 : decode cc_Mo_emit 109 = .ok (.iaload, 1) := by decide +kernel
theorem dd_Mo_emit_110 : decode cc_Mo_emit 110 = .ok (.invokevirtual 173, 3) := by decide +kernel
theorem dd_Mo_emit_113 : decode cc_Mo_emit 113 = .ok (.iinc 4 1, 3) := by decide +kernel
theorem dd_Mo_emit_116 : decode cc_Mo_emit 116 = .ok (.goto (-96), 3) := by decide +kernel
theorem dd_Mo_emit_119 : decode cc_Mo_emit 119 = .ok (.iinc 3 1, 3) := by decide +kernel
theorem dd_Mo_emit_122 : decode cc_Mo_emit 122 = .ok (.goto (-110), 3) := by decide +kernel
theorem dd_Mo_emit_125 : decode cc_Mo_emit 125 = .ok (.return_, 1) := by decide +kernel
theorem dd_Mo_place_0 : decode cc_Mo_place 0 = .ok (.iload_n 2, 1) := by decide +kernel
theorem dd_Mo_place_1 : decode cc_Mo_place 1 = .ok (.ifCond .ge 7, 3) := by decide +kernel
theorem dd_Mo_place_4 : decode cc_Mo_place 4 = .ok (.iconst 1, 1) := by decide +kernel
theorem dd_Mo_place_5 : decode cc_Mo_place 5 = .ok (.goto 4, 3) := by decide +kernel
theorem dd_Mo_place_8 : decode cc_Mo_place 8 = .ok (.iconst 0, 1) := by decide +kernel
theorem dd_Mo_place_9 : decode cc_Mo_place 9 = .ok (.istore_n 3, 1) := by decide +kernel
theorem dd_Mo_place_10 : decode cc_Mo_place 10 = .ok (.iconst 0, 1) := by decide +kernel
theorem dd_Mo_place_11 : decode cc_Mo_place 11 = .ok (.istore 4, 2) := by decide +kernel
theorem dd_Mo_place_13 : decode cc_Mo_place 13 = .ok (.iload 4, 2) := by decide +kernel
theorem dd_Mo_place_15 : decode cc_Mo_place 15 = .ok (.aload_n 0, 1) := by decide +kernel
theorem dd_Mo_place_16 : decode cc_Mo_place 16 = .ok (.getfield 92, 3) := by decide +kernel
theorem dd_Mo_place_19 : decode cc_Mo_place 19 = .ok (.iload_n 1, 1) := by decide +kernel
theorem dd_Mo_place_20 : decode cc_Mo_place 20 = .ok (.iaload, 1) := by decide +kernel
theorem dd_Mo_place_21 : decode cc_Mo_place 21 = .ok (.if_icmp .ge 35, 3) := by decide +kernel
theorem dd_Mo_place_24 : decode cc_Mo_place 24 = .ok (.iload_n 3, 1) := by decide +kernel
theorem dd_Mo_place_25 : decode cc_Mo_place 25 = .ok (.ifCond .ne 19, 3) := by decide +kernel
theorem dd_Mo_place_28 : decode cc_Mo_place 28 = .ok (.aload_n 0, 1) := by decide +kernel
theorem dd_Mo_place_29 : decode cc_Mo_place 29 = .ok (.getfield 89, 3) := by decide +kernel
theorem dd_Mo_place_32 : decode cc_Mo_place 32 = .ok (.bipush 40, 2) := by decide +kernel
theorem dd_Mo_place_34 : decode cc_Mo_place 34 = .ok (.iload_n 1, 1) := by decide +kernel
theorem dd_Mo_place_35 : decode cc_Mo_place 35 = .ok (.imul, 1) := by decide +kernel
theorem dd_Mo_place_36 : decode cc_Mo_place 36 = .ok (.iload 4, 2) := by decide +kernel
theorem dd_Mo_place_38 : decode cc_Mo_place 38 = .ok (.iadd, 1) := by decide +kernel
theorem dd_Mo_place_39 : decode cc_Mo_place 39 = .ok (.iaload, 1) := by decide +kernel
theorem dd_Mo_place_40 : decode cc_Mo_place 40 = .ok (.iload_n 2, 1) := by decide +kernel
theorem dd_Mo_place_41 : decode cc_Mo_place 41 = .ok (.if_icmp .ne 7, 3) := by decide +kernel
theorem dd_Mo_place_44 : decode cc_Mo_place 44 = .ok (.iconst 1, 1) := by decide +kernel
theorem dd_Mo_place_45 : decode cc_Mo_place 45 = .ok (.goto 4, 3) := by decide +kernel
theorem dd_Mo_place_48 : decode cc_Mo_place 48 = .ok (.iconst 0, 1) := by decide +kernel
theorem dd_Mo_place_49 : decode cc_Mo_place 49 = .ok (.istore_n 3, 1) := by decide +kernel
theorem dd_Mo_place_50 : decode cc_Mo_place 50 = .ok (.iinc 4 1, 3) := by decide +kernel
theorem dd_Mo_place_53 : decode cc_Mo_place 53 = .ok (.goto (-40), 3) := by decide +kernel
theorem dd_Mo_place_56 : decode cc_Mo_place 56 = .ok (.iload_n 3, 1) := by decide +kernel
theorem dd_Mo_place_57 : decode cc_Mo_place 57 = .ok (.ifCond .eq 4, 3) := by decide +kernel
theorem dd_Mo_place_60 : decode cc_Mo_place 60 = .ok (.return_, 1) := by decide +kernel
theorem dd_Mo_place_61 : decode cc_Mo_place 61 = .ok (.aload_n 0, 1) := by decide +kernel
theorem dd_Mo_place_62 : decode cc_Mo_place 62 = .ok (.getfield 89, 3) := by decide +kernel
theorem dd_Mo_place_65 : decode cc_Mo_place 65 = .ok (.bipush 40, 2) := by decide +kernel
theorem dd_Mo_place_67 : decode cc_Mo_place 67 = .ok (.iload_n 1, 1) := by decide +kernel
theorem dd_Mo_place_68 : decode cc_Mo_place 68 = .ok (.imul, 1) := by decide +kernel
theorem dd_Mo_place_69 : decode cc_Mo_place 69 = .ok (.aload_n 0, 1) := by decide +kernel
theorem dd_Mo_place_70 : decode cc_Mo_place 70 = .ok (.getfield 92, 3) := by decide +kernel
theorem dd_Mo_place_73 : decode cc_Mo_place 73 = .ok (.iload_n 1, 1) := by decide +kernel
theorem dd_Mo_place_74 : decode cc_Mo_place 74 = .ok (.iaload, 1) := by decide +kernel
theorem dd_Mo_place_75 : decode cc_Mo_place 75 = .ok (.iadd, 1) := by decide +kernel
theorem dd_Mo_place_76 : decode cc_Mo_place 76 = .ok (.iload_n 2, 1) := by decide +kernel
theorem dd_Mo_place_77 : decode cc_Mo_place 77 = .ok (.iastore, 1) := by decide +kernel
theorem dd_Mo_place_78 : decode cc_Mo_place 78 = .ok (.aload_n 0, 1) := by decide +kernel
theorem dd_Mo_place_79 : decode cc_Mo_place 79 = .ok (.getfield 92, 3) := by decide +kernel
theorem dd_Mo_place_82 : decode cc_Mo_place 82 = .ok (.iload_n 1, 1) := by decide +kernel
theorem dd_Mo_place_83 : decode cc_Mo_place 83 = .ok (.dup2, 1) := by decide +kernel
theorem dd_Mo_place_84 : decode cc_Mo_place 84 = .ok (.iaload, 1) := by decide +kernel
theorem dd_Mo_place_85 : decode cc_Mo_place 85 = .ok (.iconst 1, 1) := by decide +kernel
theorem dd_Mo_place_86 : decode cc_Mo_place 86 = .ok (.iadd, 1) := by decide +kernel
theorem dd_Mo_place_87 : decode cc_Mo_place 87 = .ok (.iastore, 1) := by decide +kernel
theorem dd_Mo_place_88 : decode cc_Mo_place 88 = .ok (.aload_n 0, 1) := by decide +kernel
theorem dd_Mo_place_89 : decode cc_Mo_place 89 = .ok (.getfield 95, 3) := by decide +kernel
theorem dd_Mo_place_92 : decode cc_Mo_place 92 = .ok (.iconst 4, 1) := by decide +kernel
theorem dd_Mo_place_93 : decode cc_Mo_place 93 = .ok (.iload_n 1, 1) := by decide +kernel
theorem dd_Mo_place_94 : decode cc_Mo_place 94 = .ok (.imul, 1) := by decide +kernel
theorem dd_Mo_place_95 : decode cc_Mo_place 95 = .ok (.aload_n 0, 1) := by decide +kernel
theorem dd_Mo_place_96 : decode cc_Mo_place 96 = .ok (.getfield 7, 3) := by decide +kernel
theorem dd_Mo_place_99 : decode cc_Mo_place 99 = .ok (.iload_n 2, 1) := by decide +kernel
theorem dd_Mo_place_100 : decode cc_Mo_place 100 = .ok (.iaload, 1) := by decide +kernel
theorem dd_Mo_place_101 : decode cc_Mo_place 101 = .ok (.iadd, 1) := by decide +kernel
theorem dd_Mo_place_102 : decode cc_Mo_place 102 = .ok (.iaload, 1) := by decide +kernel
theorem dd_Mo_place_103 : decode cc_Mo_place 103 = .ok (.aload_n 0, 1) := by decide +kernel
theorem dd_Mo_place_104 : decode cc_Mo_place 104 = .ok (.getfield 16, 3) := by decide +kernel
theorem dd_Mo_place_107 : decode cc_Mo_place 107 = .ok (.iload_n 2, 1) := by decide +kernel
theorem dd_Mo_place_108 : decode cc_Mo_place 108 = .ok (.iaload, 1) := by decide +kernel
theorem dd_Mo_place_109 : decode cc_Mo_place 109 = .ok (.if_icmp .lt 51, 3) := by decide +kernel
theorem dd_Mo_place_112 : decode cc_Mo_place 112 = .ok (.aload_n 0, 1) := by decide +kernel
theorem dd_Mo_place_113 : decode cc_Mo_place 113 = .ok (.getfield 95, 3) := by decide +kernel
theorem dd_Mo_place_116 : decode cc_Mo_place 116 = .ok (.iconst 4, 1) := by decide +kernel
theorem dd_Mo_place_117 : decode cc_Mo_place 117 = .ok (.iload_n 1, 1) := by decide +kernel
theorem dd_Mo_place_118 : decode cc_Mo_place 118 = .ok (.imul, 1) := by decide +kernel
theorem dd_Mo_place_119 : decode cc_Mo_place 119 = .ok (.aload_n 0, 1) := by decide +kernel
theorem dd_Mo_place_120 : decode cc_Mo_place 120 = .ok (.getfield 7, 3) := by decide +kernel
theorem dd_Mo_place_123 : decode cc_Mo_place 123 = .ok (.iload_n 2, 1) := by decide +kernel
theorem dd_Mo_place_124 : decode cc_Mo_place 124 = .ok (.iaload, 1) := by decide +kernel
theorem dd_Mo_place_125 : decode cc_Mo_place 125 = .ok (.iadd, 1) := by decide +kernel
theorem dd_Mo_place_126 : decode cc_Mo_place 126 = .ok (.dup2, 1) := by decide +kernel
theorem dd_Mo_place_127 : decode cc_Mo_place 127 = .ok (.iaload, 1) := by decide +kernel
theorem dd_Mo_place_128 : decode cc_Mo_place 128 = .ok (.aload_n 0, 1) := by decide +kernel
theorem dd_Mo_place_129 : decode cc_Mo_place 129 = .ok (.getfield 16, 3) := by decide +kernel
theorem dd_Mo_place_132 : decode cc_Mo_place 132 = .ok (.iload_n 2, 1) := by decide +kernel
theorem dd_Mo_place_133 : decode cc_Mo_place 133 = .ok (.iaload, 1) := by decide +kernel
theorem dd_Mo_place_134 : decode cc_Mo_place 134 = .ok (.isub, 1) := by decide +kernel
theorem dd_Mo_place_135 : decode cc_Mo_place 135 = .ok (.iastore, 1) := by decide +kernel
theorem dd_Mo_place_136 : decode cc_Mo_place 136 = .ok (.aload_n 0, 1) := by decide +kernel
theorem dd_Mo_place_137 : decode cc_Mo_place 137 = .ok (.getfield 95, 3) := by decide +kernel
theorem dd_Mo_place_140 : decode cc_Mo_place 140 = .ok (.iconst 4, 1) := by decide +kernel
theorem dd_Mo_place_141 : decode cc_Mo_place 141 = .ok (.iload_n 1, 1) := by decide +kernel
theorem dd_Mo_place_142 : decode cc_Mo_place 142 = .ok (.imul, 1) := by decide +kernel
theorem dd_Mo_place_143 : decode cc_Mo_place 143 = .ok (.aload_n 0, 1) := by decide +kernel
theorem dd_Mo_place_144 : decode cc_Mo_place 144 = .ok (.getfield 13, 3) := by decide +kernel
theorem dd_Mo_place_147 : decode cc_Mo_place 147 = .ok (.iload_n 2, 1) := by decide +kernel
theorem dd_Mo_place_148 : decode cc_Mo_place 148 = .ok (.iaload, 1) := by decide +kernel
theorem dd_Mo_place_149 : decode cc_Mo_place 149 = .ok (.iadd, 1) := by decide +kernel
theorem dd_Mo_place_150 : decode cc_Mo_place 150 = .ok (.dup2, 1) := by decide +kernel
theorem dd_Mo_place_151 : decode cc_Mo_place 151 = .ok (.iaload, 1) := by decide +kernel
theorem dd_Mo_place_152 : decode cc_Mo_place 152 = .ok (.aload_n 0, 1) := by decide +kernel
theorem dd_Mo_place_153 : decode cc_Mo_place 153 = .ok (.getfield 16, 3) := by decide +kernel
theorem dd_Mo_place_156 : decode cc_Mo_place 156 = .ok (.iload_n 2, 1) := by decide +kernel
theorem dd_Mo_place_157 : decode cc_Mo_place 157 = .ok (.iaload, 1) := by decide +kernel
theorem dd_Mo_place_158 : decode cc_Mo_place 158 = .ok (.iadd, 1) := by decide +kernel
theorem dd_Mo_place_159 : decode cc_Mo_place 159 = .ok (.iastore, 1) := by decide +kernel
theorem dd_Mo_place_160 : decode cc_Mo_place 160 = .ok (.return_, 1) := by decide +kernel
theorem dd_Mo_advances_0 : decode cc_Mo_advances 0 = .ok (.aload_n 0, 1) := by decide +kernel
theorem dd_Mo_advances_1 : decode cc_Mo_advances 1 = .ok (.getfield 59, 3) := by decide +kernel
theorem dd_Mo_advances_4 : decode cc_Mo_advances 4 = .ok (.iload_n 1, 1) := by decide +kernel
theorem dd_Mo_advances_5 : decode cc_Mo_advances 5 = .ok (.iaload, 1) := by decide +kernel
theorem dd_Mo_advances_6 : decode cc_Mo_advances 6 = .ok (.istore_n 2, 1) := by decide +kernel
theorem dd_Mo_advances_7 : decode cc_Mo_advances 7 = .ok (.aload_n 0, 1) := by decide +kernel
theorem dd_Mo_advances_8 : decode cc_Mo_advances 8 = .ok (.getfield 153, 3) := by decide +kernel
theorem dd_Mo_advances_11 : decode cc_Mo_advances 11 = .ok (.bipush 90, 2) := by decide +kernel
theorem dd_Mo_advances_13 : decode cc_Mo_advances 13 = .ok (.if_icmp .eq 9, 3) := by decide +kernel
theorem dd_Mo_advances_16 : decode cc_Mo_advances 16 = .ok (.iload_n 2, 1) := by decide +kernel
theorem dd_Mo_advances_17 : decode cc_Mo_advances 17 = .ok (.bipush 13, 2) := by decide +kernel
theorem dd_Mo_advances_19 : decode cc_Mo_advances 19 = .ok (.if_icmp .le 5, 3) := by decide +kernel
theorem dd_Mo_advances_22 : decode cc_Mo_advances 22 = .ok (.iconst 0, 1) := by decide +kernel
theorem dd_Mo_advances_23 : decode cc_Mo_advances 23 = .ok (.ireturn, 1) := by decide +kernel
theorem dd_Mo_advances_24 : decode cc_Mo_advances 24 = .ok (.iload_n 2, 1) := by decide +kernel
theorem dd_Mo_advances_25 : decode cc_Mo_advances 25 = .ok (.ifCond .ne 18, 3) := by decide +kernel
theorem dd_Mo_advances_28 : decode cc_Mo_advances 28 = .ok (.aload_n 0, 1) := by decide +kernel
theorem dd_Mo_advances_29 : decode cc_Mo_advances 29 = .ok (.getfield 68, 3) := by decide +kernel
theorem dd_Mo_advances_32 : decode cc_Mo_advances 32 = .ok (.iload_n 1, 1) := by decide +kernel
theorem dd_Mo_advances_33 : decode cc_Mo_advances 33 = .ok (.iaload, 1) := by decide +kernel
theorem dd_Mo_advances_34 : decode cc_Mo_advances 34 = .ok (.ifCond .eq 7, 3) := by decide +kernel
theorem dd_Mo_advances_37 : decode cc_Mo_advances 37 = .ok (.iconst 1, 1) := by decide +kernel
theorem dd_Mo_advances_38 : decode cc_Mo_advances 38 = .ok (.goto 4, 3) := by decide +kernel
theorem dd_Mo_advances_41 : decode cc_Mo_advances 41 = .ok (.iconst 0, 1) := by decide +kernel
theorem dd_Mo_advances_42 : decode cc_Mo_advances 42 = .ok (.ireturn, 1) := by decide +kernel
theorem dd_Mo_advances_43 : decode cc_Mo_advances 43 = .ok (.aload_n 0, 1) := by decide +kernel
theorem dd_Mo_advances_44 : decode cc_Mo_advances 44 = .ok (.iload_n 1, 1) := by decide +kernel
theorem dd_Mo_advances_45 : decode cc_Mo_advances 45 = .ok (.iload_n 2, 1) := by decide +kernel
theorem dd_Mo_advances_46 : decode cc_Mo_advances 46 = .ok (.invokevirtual 156, 3) := by decide +kernel
theorem dd_Mo_advances_49 : decode cc_Mo_advances 49 = .ok (.istore_n 3, 1) := by decide +kernel
theorem dd_Mo_advances_50 : decode cc_Mo_advances 50 = .ok (.iload_n 3, 1) := by decide +kernel
theorem dd_Mo_advances_51 : decode cc_Mo_advances 51 = .ok (.iload_n 1, 1) := by decide +kernel
theorem dd_Mo_advances_52 : decode cc_Mo_advances 52 = .ok (.ishr, 1) := by decide +kernel
theorem dd_Mo_advances_53 : decode cc_Mo_advances 53 = .ok (.iconst 1, 1) := by decide +kernel
theorem dd_Mo_advances_54 : decode cc_Mo_advances 54 = .ok (.iand, 1) := by decide +kernel
theorem dd_Mo_advances_55 : decode cc_Mo_advances 55 = .ok (.iconst 1, 1) := by decide +kernel
theorem dd_Mo_advances_56 : decode cc_Mo_advances 56 = .ok (.if_icmp .ne 41, 3) := by decide +kernel
theorem dd_Mo_advances_59 : decode cc_Mo_advances 59 = .ok (.iload_n 3, 1) := by decide +kernel
theorem dd_Mo_advances_60 : decode cc_Mo_advances 60 = .ok (.invokestatic 115, 3) := by decide +kernel
theorem dd_Mo_advances_63 : decode cc_Mo_advances 63 = .ok (.iconst 3, 1) := by decide +kernel
theorem dd_Mo_advances_64 : decode cc_Mo_advances 64 = .ok (.if_icmp .lt 33, 3) := by decide +kernel
theorem dd_Mo_advances_67 : decode cc_Mo_advances 67 = .ok (.iload_n 2, 1) := by decide +kernel
theorem dd_Mo_advances_68 : decode cc_Mo_advances 68 = .ok (.iconst 2, 1) := by decide +kernel
theorem dd_Mo_advances_69 : decode cc_Mo_advances 69 = .ok (.irem, 1) := by decide +kernel
theorem dd_Mo_advances_70 : decode cc_Mo_advances 70 = .ok (.iconst 1, 1) := by decide +kernel
theorem dd_Mo_advances_71 : decode cc_Mo_advances 71 = .ok (.if_icmp .eq 22, 3) := by decide +kernel
theorem dd_Mo_advances_74 : decode cc_Mo_advances 74 = .ok (.aload_n 0, 1) := by decide +kernel
theorem dd_Mo_advances_75 : decode cc_Mo_advances 75 = .ok (.iload_n 1, 1) := by decide +kernel
theorem dd_Mo_advances_76 : decode cc_Mo_advances 76 = .ok (.iload_n 2, 1) := by decide +kernel
theorem dd_Mo_advances_77 : decode cc_Mo_advances 77 = .ok (.invokevirtual 162, 3) := by decide +kernel
theorem dd_Mo_advances_80 : decode cc_Mo_advances 80 = .ok (.ifCond .ne 13, 3) := by decide +kernel
theorem dd_Mo_advances_83 : decode cc_Mo_advances 83 = .ok (.aload_n 0, 1) := by decide +kernel
theorem dd_Mo_advances_84 : decode cc_Mo_advances 84 = .ok (.getfield 68, 3) := by decide +kernel
theorem dd_Mo_advances_87 : decode cc_Mo_advances 87 = .ok (.iload_n 1, 1) := by decide +kernel
theorem dd_Mo_advances_88 : decode cc_Mo_advances 88 = .ok (.iaload, 1) := by decide +kernel
theorem dd_Mo_advances_89 : decode cc_Mo_advances 89 = .ok (.iconst 3, 1) := by decide +kernel
theorem dd_Mo_advances_90 : decode cc_Mo_advances 90 = .ok (.if_icmp .lt 7, 3) := by decide +kernel
theorem dd_Mo_advances_93 : decode cc_Mo_advances 93 = .ok (.iconst 1, 1) := by decide +kernel
theorem dd_Mo_advances_94 : decode cc_Mo_advances 94 = .ok (.goto 4, 3) := by decide +kernel
theorem dd_Mo_advances_97 : decode cc_Mo_advances 97 = .ok (.iconst 0, 1) := by decide +kernel
theorem dd_Mo_advances_98 : decode cc_Mo_advances 98 = .ok (.ireturn, 1) := by decide +kernel
theorem dd_Mo_advance_0 : decode cc_Mo_advance 0 = .ok (.aload_n 0, 1) := by decide +kernel
theorem dd_Mo_advance_1 : decode cc_Mo_advance 1 = .ok (.iload_n 1, 1) := by decide +kernel
theorem dd_Mo_advance_2 : decode cc_Mo_advance 2 = .ok (.aload_n 0, 1) := by decide +kernel
theorem dd_Mo_advance_3 : decode cc_Mo_advance 3 = .ok (.getfield 59, 3) := by decide +kernel
theorem dd_Mo_advance_6 : decode cc_Mo_advance 6 = .ok (.iload_n 1, 1) := by decide +kernel
theorem dd_Mo_advance_7 : decode cc_Mo_advance 7 = .ok (.iaload, 1) := by decide +kernel
theorem dd_Mo_advance_8 : decode cc_Mo_advance 8 = .ok (.invokevirtual 156, 3) := by decide +kernel
theorem dd_Mo_advance_11 : decode cc_Mo_advance 11 = .ok (.istore_n 2, 1) := by decide +kernel
theorem dd_Mo_advance_12 : decode cc_Mo_advance 12 = .ok (.aload_n 0, 1) := by decide +kernel
theorem dd_Mo_advance_13 : decode cc_Mo_advance 13 = .ok (.iload_n 1, 1) := by decide +kernel
theorem dd_Mo_advance_14 : decode cc_Mo_advance 14 = .ok (.invokevirtual 127, 3) := by decide +kernel
theorem dd_Mo_advance_17 : decode cc_Mo_advance 17 = .ok (.ifCond .ne 4, 3) := by decide +kernel
theorem dd_Mo_advance_20 : decode cc_Mo_advance 20 = .ok (.return_, 1) := by decide +kernel
theorem dd_Mo_advance_21 : decode cc_Mo_advance 21 = .ok (.aload_n 0, 1) := by decide +kernel
theorem dd_Mo_advance_22 : decode cc_Mo_advance 22 = .ok (.iload_n 1, 1) := by decide +kernel
theorem dd_Mo_advance_23 : decode cc_Mo_advance 23 = .ok (.iconst (-1), 1) := by decide +kernel
theorem dd_Mo_advance_24 : decode cc_Mo_advance 24 = .ok (.invokevirtual 179, 3) := by decide +kernel
theorem dd_Mo_advance_27 : decode cc_Mo_advance 27 = .ok (.istore_n 3, 1) := by decide +kernel
theorem dd_Mo_advance_28 : decode cc_Mo_advance 28 = .ok (.iload_n 3, 1) := by decide +kernel
theorem dd_Mo_advance_29 : decode cc_Mo_advance 29 = .ok (.ifCond .ge 7, 3) := by decide +kernel
theorem dd_Mo_advance_32 : decode cc_Mo_advance 32 = .ok (.iconst (-1), 1) := by decide +kernel
theorem dd_Mo_advance_33 : decode cc_Mo_advance 33 = .ok (.goto 9, 3) := by decide +kernel
theorem dd_Mo_advance_36 : decode cc_Mo_advance 36 = .ok (.aload_n 0, 1) := by decide +kernel
theorem dd_Mo_advance_37 : decode cc_Mo_advance 37 = .ok (.iload_n 1, 1) := by decide +kernel
theorem dd_Mo_advance_38 : decode cc_Mo_advance 38 = .ok (.iload_n 3, 1) := by decide +kernel
theorem dd_Mo_advance_39 : decode cc_Mo_advance 39 = .ok (.invokevirtual 179, 3) := by decide +kernel
theorem dd_Mo_advance_42 : decode cc_Mo_advance 42 = .ok (.istore 4, 2) := by decide +kernel
theorem dd_Mo_advance_44 : decode cc_Mo_advance 44 = .ok (.aload_n 0, 1) := by decide +kernel
theorem dd_Mo_advance_45 : decode cc_Mo_advance 45 = .ok (.getfield 59, 3) := by decide +kernel
theorem dd_Mo_advance_48 : decode cc_Mo_advance 48 = .ok (.iload_n 1, 1) := by decide +kernel
theorem dd_Mo_advance_49 : decode cc_Mo_advance 49 = .ok (.dup2, 1) := by decide +kernel
theorem dd_Mo_advance_50 : decode cc_Mo_advance 50 = .ok (.iaload, 1) := by decide +kernel
theorem dd_Mo_advance_51 : decode cc_Mo_advance 51 = .ok (.iconst 1, 1) := by decide +kernel
theorem dd_Mo_advance_52 : decode cc_Mo_advance 52 = .ok (.iadd, 1) := by decide +kernel
theorem dd_Mo_advance_53 : decode cc_Mo_advance 53 = .ok (.iastore, 1) := by decide +kernel
theorem dd_Mo_advance_54 : decode cc_Mo_advance 54 = .ok (.aload_n 0, 1) := by decide +kernel
theorem dd_Mo_advance_55 : decode cc_Mo_advance 55 = .ok (.iload_n 1, 1) := by decide +kernel
theorem dd_Mo_advance_56 : decode cc_Mo_advance 56 = .ok (.aload_n 0, 1) := by decide +kernel
theorem dd_Mo_advance_57 : decode cc_Mo_advance 57 = .ok (.iload_n 1, 1) := by decide +kernel
theorem dd_Mo_advance_58 : decode cc_Mo_advance 58 = .ok (.aload_n 0, 1) := by decide +kernel
theorem dd_Mo_advance_59 : decode cc_Mo_advance 59 = .ok (.getfield 59, 3) := by decide +kernel
theorem dd_Mo_advance_62 : decode cc_Mo_advance 62 = .ok (.iload_n 1, 1) := by decide +kernel
theorem dd_Mo_advance_63 : decode cc_Mo_advance 63 = .ok (.iaload, 1) := by decide +kernel
theorem dd_Mo_advance_64 : decode cc_Mo_advance 64 = .ok (.iload_n 2, 1) := by decide +kernel
theorem dd_Mo_advance_65 : decode cc_Mo_advance 65 = .ok (.iload_n 3, 1) := by decide +kernel
theorem dd_Mo_advance_66 : decode cc_Mo_advance 66 = .ok (.iload 4, 2) := by decide +kernel
theorem dd_Mo_advance_68 : decode cc_Mo_advance 68 = .ok (.invokevirtual 182, 3) := by decide +kernel
theorem dd_Mo_advance_71 : decode cc_Mo_advance 71 = .ok (.iconst 0, 1) := by decide +kernel
theorem dd_Mo_advance_72 : decode cc_Mo_advance 72 = .ok (.invokevirtual 130, 3) := by decide +kernel
theorem dd_Mo_advance_75 : decode cc_Mo_advance 75 = .ok (.pop, 1) := by decide +kernel
theorem dd_Mo_advance_76 : decode cc_Mo_advance 76 = .ok (.iload_n 3, 1) := by decide +kernel
theorem dd_Mo_advance_77 : decode cc_Mo_advance 77 = .ok (.ifCond .lt 10, 3) := by decide +kernel
theorem dd_Mo_advance_80 : decode cc_Mo_advance 80 = .ok (.aload_n 0, 1) := by decide +kernel
theorem dd_Mo_advance_81 : decode cc_Mo_advance 81 = .ok (.getfield 22, 3) := by decide +kernel
theorem dd_Mo_advance_84 : decode cc_Mo_advance 84 = .ok (.iload_n 3, 1) := by decide +kernel
theorem dd_Mo_advance_85 : decode cc_Mo_advance 85 = .ok (.iconst 1, 1) := by decide +kernel
theorem dd_Mo_advance_86 : decode cc_Mo_advance 86 = .ok (.bastore, 1) := by decide +kernel
theorem dd_Mo_advance_87 : decode cc_Mo_advance 87 = .ok (.iload 4, 2) := by decide +kernel
theorem dd_Mo_advance_89 : decode cc_Mo_advance 89 = .ok (.ifCond .lt 11, 3) := by decide +kernel
theorem dd_Mo_advance_92 : decode cc_Mo_advance 92 = .ok (.aload_n 0, 1) := by decide +kernel
theorem dd_Mo_advance_93 : decode cc_Mo_advance 93 = .ok (.getfield 22, 3) := by decide +kernel
theorem dd_Mo_advance_96 : decode cc_Mo_advance 96 = .ok (.iload 4, 2) := by decide +kernel
theorem dd_Mo_advance_98 : decode cc_Mo_advance 98 = .ok (.iconst 1, 1) := by decide +kernel
theorem dd_Mo_advance_99 : decode cc_Mo_advance 99 = .ok (.bastore, 1) := by decide +kernel
theorem dd_Mo_advance_100 : decode cc_Mo_advance 100 = .ok (.aload_n 0, 1) := by decide +kernel
theorem dd_Mo_advance_101 : decode cc_Mo_advance 101 = .ok (.getfield 68, 3) := by decide +kernel
theorem dd_Mo_advance_104 : decode cc_Mo_advance 104 = .ok (.iload_n 1, 1) := by decide +kernel
theorem dd_Mo_advance_105 : decode cc_Mo_advance 105 = .ok (.iconst 0, 1) := by decide +kernel
theorem dd_Mo_advance_106 : decode cc_Mo_advance 106 = .ok (.iastore, 1) := by decide +kernel
theorem dd_Mo_advance_107 : decode cc_Mo_advance 107 = .ok (.return_, 1) := by decide +kernel
theorem dd_Mo_queued_0 : decode cc_Mo_queued 0 = .ok (.iload_n 2, 1) := by decide +kernel
theorem dd_Mo_queued_1 : decode cc_Mo_queued 1 = .ok (.iconst 1, 1) := by decide +kernel
theorem dd_Mo_queued_2 : decode cc_Mo_queued 2 = .ok (.iadd, 1) := by decide +kernel
theorem dd_Mo_queued_3 : decode cc_Mo_queued 3 = .ok (.istore_n 3, 1) := by decide +kernel
theorem dd_Mo_queued_4 : decode cc_Mo_queued 4 = .ok (.iload_n 3, 1) := by decide +kernel
theorem dd_Mo_queued_5 : decode cc_Mo_queued 5 = .ok (.aload_n 0, 1) := by decide +kernel
theorem dd_Mo_queued_6 : decode cc_Mo_queued 6 = .ok (.getfield 176, 3) := by decide +kernel
theorem dd_Mo_queued_9 : decode cc_Mo_queued 9 = .ok (.if_icmp .ge 30, 3) := by decide +kernel
theorem dd_Mo_queued_12 : decode cc_Mo_queued 12 = .ok (.aload_n 0, 1) := by decide +kernel
theorem dd_Mo_queued_13 : decode cc_Mo_queued 13 = .ok (.getfield 19, 3) := by decide +kernel
theorem dd_Mo_queued_16 : decode cc_Mo_queued 16 = .ok (.iload_n 3, 1) := by decide +kernel
theorem dd_Mo_queued_17 : decode cc_Mo_queued 17 = .ok (.iaload, 1) := by decide +kernel
theorem dd_Mo_queued_18 : decode cc_Mo_queued 18 = .ok (.iload_n 1, 1) := by decide +kernel
theorem dd_Mo_queued_19 : decode cc_Mo_queued 19 = .ok (.if_icmp .ne 14, 3) := by decide +kernel
theorem dd_Mo_queued_22 : decode cc_Mo_queued 22 = .ok (.aload_n 0, 1) := by decide +kernel
theorem dd_Mo_queued_23 : decode cc_Mo_queued 23 = .ok (.getfield 22, 3) := by decide +kernel
theorem dd_Mo_queued_26 : decode cc_Mo_queued 26 = .ok (.iload_n 3, 1) := by decide +kernel
theorem dd_Mo_queued_27 : decode cc_Mo_queued 27 = .ok (.baload, 1) := by decide +kernel
theorem dd_Mo_queued_28 : decode cc_Mo_queued 28 = .ok (.ifCond .ne 5, 3) := by decide +kernel
theorem dd_Mo_queued_31 : decode cc_Mo_queued 31 = .ok (.iload_n 3, 1) := by decide +kernel
theorem dd_Mo_queued_32 : decode cc_Mo_queued 32 = .ok (.ireturn, 1) := by decide +kernel
theorem dd_Mo_queued_33 : decode cc_Mo_queued 33 = .ok (.iinc 3 1, 3) := by decide +kernel
theorem dd_Mo_queued_36 : decode cc_Mo_queued 36 = .ok (.goto (-32), 3) := by decide +kernel
theorem dd_Mo_queued_39 : decode cc_Mo_queued 39 = .ok (.iconst (-1), 1) := by decide +kernel
theorem dd_Mo_queued_40 : decode cc_Mo_queued 40 = .ok (.ireturn, 1) := by decide +kernel
theorem dd_Mo_make_0 : decode cc_Mo_make 0 = .ok (.aload_n 0, 1) := by decide +kernel
theorem dd_Mo_make_1 : decode cc_Mo_make 1 = .ok (.getfield 26, 3) := by decide +kernel
theorem dd_Mo_make_4 : decode cc_Mo_make 4 = .ok (.aload_n 0, 1) := by decide +kernel
theorem dd_Mo_make_5 : decode cc_Mo_make 5 = .ok (.getfield 153, 3) := by decide +kernel
theorem dd_Mo_make_8 : decode cc_Mo_make 8 = .ok (.iload_n 1, 1) := by decide +kernel
theorem dd_Mo_make_9 : decode cc_Mo_make 9 = .ok (.iastore, 1) := by decide +kernel
theorem dd_Mo_make_10 : decode cc_Mo_make 10 = .ok (.aload_n 0, 1) := by decide +kernel
theorem dd_Mo_make_11 : decode cc_Mo_make 11 = .ok (.getfield 29, 3) := by decide +kernel
theorem dd_Mo_make_14 : decode cc_Mo_make 14 = .ok (.aload_n 0, 1) := by decide +kernel
theorem dd_Mo_make_15 : decode cc_Mo_make 15 = .ok (.getfield 153, 3) := by decide +kernel
theorem dd_Mo_make_18 : decode cc_Mo_make 18 = .ok (.iload_n 2, 1) := by decide +kernel
theorem dd_Mo_make_19 : decode cc_Mo_make 19 = .ok (.iastore, 1) := by decide +kernel
theorem dd_Mo_make_20 : decode cc_Mo_make 20 = .ok (.aload_n 0, 1) := by decide +kernel
theorem dd_Mo_make_21 : decode cc_Mo_make 21 = .ok (.getfield 32, 3) := by decide +kernel
theorem dd_Mo_make_24 : decode cc_Mo_make 24 = .ok (.aload_n 0, 1) := by decide +kernel
theorem dd_Mo_make_25 : decode cc_Mo_make 25 = .ok (.getfield 153, 3) := by decide +kernel
theorem dd_Mo_make_28 : decode cc_Mo_make 28 = .ok (.iload_n 3, 1) := by decide +kernel
theorem dd_Mo_make_29 : decode cc_Mo_make 29 = .ok (.iastore, 1) := by decide +kernel
theorem dd_Mo_make_30 : decode cc_Mo_make 30 = .ok (.aload_n 0, 1) := by decide +kernel
theorem dd_Mo_make_31 : decode cc_Mo_make 31 = .ok (.getfield 35, 3) := by decide +kernel
theorem dd_Mo_make_34 : decode cc_Mo_make 34 = .ok (.aload_n 0, 1) := by decide +kernel
theorem dd_Mo_make_35 : decode cc_Mo_make 35 = .ok (.getfield 153, 3) := by decide +kernel
theorem dd_Mo_make_38 : decode cc_Mo_make 38 = .ok (.iload 4, 2) := by decide +kernel
theorem dd_Mo_make_40 : decode cc_Mo_make 40 = .ok (.iastore, 1) := by decide +kernel
theorem dd_Mo_make_41 : decode cc_Mo_make 41 = .ok (.aload_n 0, 1) := by decide +kernel
theorem dd_Mo_make_42 : decode cc_Mo_make 42 = .ok (.getfield 38, 3) := by decide +kernel
theorem dd_Mo_make_45 : decode cc_Mo_make 45 = .ok (.aload_n 0, 1) := by decide +kernel
theorem dd_Mo_make_46 : decode cc_Mo_make 46 = .ok (.getfield 153, 3) := by decide +kernel
theorem dd_Mo_make_49 : decode cc_Mo_make 49 = .ok (.iload 5, 2) := by decide +kernel
theorem dd_Mo_make_51 : decode cc_Mo_make 51 = .ok (.iastore, 1) := by decide +kernel
theorem dd_Mo_make_52 : decode cc_Mo_make 52 = .ok (.aload_n 0, 1) := by decide +kernel
theorem dd_Mo_make_53 : decode cc_Mo_make 53 = .ok (.dup, 1) := by decide +kernel
theorem dd_Mo_make_54 : decode cc_Mo_make 54 = .ok (.getfield 153, 3) := by decide +kernel
theorem dd_Mo_make_57 : decode cc_Mo_make 57 = .ok (.iconst 1, 1) := by decide +kernel
theorem dd_Mo_make_58 : decode cc_Mo_make 58 = .ok (.iadd, 1) := by decide +kernel
theorem dd_Mo_make_59 : decode cc_Mo_make 59 = .ok (.putfield 153, 3) := by decide +kernel
theorem dd_Mo_make_62 : decode cc_Mo_make 62 = .ok (.aload_n 0, 1) := by decide +kernel
theorem dd_Mo_make_63 : decode cc_Mo_make 63 = .ok (.getfield 153, 3) := by decide +kernel
theorem dd_Mo_make_66 : decode cc_Mo_make 66 = .ok (.iconst 1, 1) := by decide +kernel
theorem dd_Mo_make_67 : decode cc_Mo_make 67 = .ok (.isub, 1) := by decide +kernel
theorem dd_Mo_make_68 : decode cc_Mo_make 68 = .ok (.ireturn, 1) := by decide +kernel
theorem dd_Mo_pump_0 : decode cc_Mo_pump 0 = .ok (.aload_n 0, 1) := by decide +kernel
theorem dd_Mo_pump_1 : decode cc_Mo_pump 1 = .ok (.iload_n 1, 1) := by decide +kernel
theorem dd_Mo_pump_2 : decode cc_Mo_pump 2 = .ok (.invokevirtual 190, 3) := by decide +kernel
theorem dd_Mo_pump_5 : decode cc_Mo_pump 5 = .ok (.ifCond .ne 5, 3) := by decide +kernel
theorem dd_Mo_pump_8 : decode cc_Mo_pump 8 = .ok (.iconst 0, 1) := by decide +kernel
theorem dd_Mo_pump_9 : decode cc_Mo_pump 9 = .ok (.ireturn, 1) := by decide +kernel
theorem dd_Mo_pump_10 : decode cc_Mo_pump 10 = .ok (.aload_n 0, 1) := by decide +kernel
theorem dd_Mo_pump_11 : decode cc_Mo_pump 11 = .ok (.getfield 50, 3) := by decide +kernel
theorem dd_Mo_pump_14 : decode cc_Mo_pump 14 = .ok (.iload_n 1, 1) := by decide +kernel
theorem dd_Mo_pump_15 : decode cc_Mo_pump 15 = .ok (.iaload, 1) := by decide +kernel
theorem dd_Mo_pump_16 : decode cc_Mo_pump 16 = .ok (.iconst 1, 1) := by decide +kernel
theorem dd_Mo_pump_17 : decode cc_Mo_pump 17 = .ok (.if_icmp .eq 10, 3) := by decide +kernel
theorem dd_Mo_pump_20 : decode cc_Mo_pump 20 = .ok (.aload_n 0, 1) := by decide +kernel
theorem dd_Mo_pump_21 : decode cc_Mo_pump 21 = .ok (.iconst 2, 1) := by decide +kernel
theorem dd_Mo_pump_22 : decode cc_Mo_pump 22 = .ok (.putfield 105, 3) := by decide +kernel
theorem dd_Mo_pump_25 : decode cc_Mo_pump 25 = .ok (.iconst 0, 1) := by decide +kernel
theorem dd_Mo_pump_26 : decode cc_Mo_pump 26 = .ok (.ireturn, 1) := by decide +kernel
theorem dd_Mo_pump_27 : decode cc_Mo_pump 27 = .ok (.iload_n 2, 1) := by decide +kernel
theorem dd_Mo_pump_28 : decode cc_Mo_pump 28 = .ok (.iconst 1, 1) := by decide +kernel
theorem dd_Mo_pump_29 : decode cc_Mo_pump 29 = .ok (.bipush 50, 2) := by decide +kernel
theorem dd_Mo_pump_31 : decode cc_Mo_pump 31 = .ok (.invokestatic 186, 3) := by decide +kernel
theorem dd_Mo_pump_34 : decode cc_Mo_pump 34 = .ok (.ifCond .ne 5, 3) := by decide +kernel
theorem dd_Mo_pump_37 : decode cc_Mo_pump 37 = .ok (.iconst (-1), 1) := by decide +kernel
theorem dd_Mo_pump_38 : decode cc_Mo_pump 38 = .ok (.ireturn, 1) := by decide +kernel
theorem dd_Mo_pump_39 : decode cc_Mo_pump 39 = .ok (.iconst 0, 1) := by decide +kernel
theorem dd_Mo_pump_40 : decode cc_Mo_pump 40 = .ok (.istore_n 3, 1) := by decide +kernel
theorem dd_Mo_pump_41 : decode cc_Mo_pump 41 = .ok (.iload_n 3, 1) := by decide +kernel
theorem dd_Mo_pump_42 : decode cc_Mo_pump 42 = .ok (.iload_n 2, 1) := by decide +kernel
theorem dd_Mo_pump_43 : decode cc_Mo_pump 43 = .ok (.if_icmp .ge 62, 3) := by decide +kernel
theorem dd_Mo_pump_46 : decode cc_Mo_pump 46 = .ok (.aload_n 0, 1) := by decide +kernel
theorem dd_Mo_pump_47 : decode cc_Mo_pump 47 = .ok (.getfield 50, 3) := by decide +kernel
theorem dd_Mo_pump_50 : decode cc_Mo_pump 50 = .ok (.iload_n 1, 1) := by decide +kernel
theorem dd_Mo_pump_51 : decode cc_Mo_pump 51 = .ok (.iaload, 1) := by decide +kernel
theorem dd_Mo_pump_52 : decode cc_Mo_pump 52 = .ok (.iconst 1, 1) := by decide +kernel
theorem dd_Mo_pump_53 : decode cc_Mo_pump 53 = .ok (.if_icmp .ne 52, 3) := by decide +kernel
theorem dd_Mo_pump_56 : decode cc_Mo_pump 56 = .ok (.aload_n 0, 1) := by decide +kernel
theorem dd_Mo_pump_57 : decode cc_Mo_pump 57 = .ok (.getfield 71, 3) := by decide +kernel
theorem dd_Mo_pump_60 : decode cc_Mo_pump 60 = .ok (.iload_n 1, 1) := by decide +kernel
theorem dd_Mo_pump_61 : decode cc_Mo_pump 61 = .ok (.iaload, 1) := by decide +kernel
theorem dd_Mo_pump_62 : decode cc_Mo_pump 62 = .ok (.aload_n 0, 1) := by decide +kernel
theorem dd_Mo_pump_63 : decode cc_Mo_pump 63 = .ok (.getfield 112, 3) := by decide +kernel
theorem dd_Mo_pump_66 : decode cc_Mo_pump 66 = .ok (.if_icmp .ge 39, 3) := by decide +kernel
theorem dd_Mo_pump_69 : decode cc_Mo_pump 69 = .ok (.aload_n 0, 1) := by decide +kernel
theorem dd_Mo_pump_70 : decode cc_Mo_pump 70 = .ok (.invokevirtual 196, 3) := by decide +kernel
theorem dd_Mo_pump_73 : decode cc_Mo_pump 73 = .ok (.ifCond .ne 32, 3) := by decide +kernel
theorem dd_Mo_pump_76 : decode cc_Mo_pump 76 = .ok (.aload_n 0, 1) := by decide +kernel
theorem dd_Mo_pump_77 : decode cc_Mo_pump 77 = .ok (.getfield 71, 3) := by decide +kernel
theorem dd_Mo_pump_80 : decode cc_Mo_pump 80 = .ok (.iload_n 1, 1) := by decide +kernel
theorem dd_Mo_pump_81 : decode cc_Mo_pump 81 = .ok (.dup2, 1) := by decide +kernel
theorem dd_Mo_pump_82 : decode cc_Mo_pump 82 = .ok (.iaload, 1) := by decide +kernel
theorem dd_Mo_pump_83 : decode cc_Mo_pump 83 = .ok (.iconst 1, 1) := by decide +kernel
theorem dd_Mo_pump_84 : decode cc_Mo_pump 84 = .ok (.iadd, 1) := by decide +kernel
theorem dd_Mo_pump_85 : decode cc_Mo_pump 85 = .ok (.iastore, 1) := by decide +kernel
theorem dd_Mo_pump_86 : decode cc_Mo_pump 86 = .ok (.iinc 3 1, 3) := by decide +kernel
theorem dd_Mo_pump_89 : decode cc_Mo_pump 89 = .ok (.aload_n 0, 1) := by decide +kernel
theorem dd_Mo_pump_90 : decode cc_Mo_pump 90 = .ok (.iload_n 1, 1) := by decide +kernel
theorem dd_Mo_pump_91 : decode cc_Mo_pump 91 = .ok (.aload_n 0, 1) := by decide +kernel
theorem dd_Mo_pump_92 : decode cc_Mo_pump 92 = .ok (.getfield 71, 3) := by decide +kernel
theorem dd_Mo_pump_95 : decode cc_Mo_pump 95 = .ok (.iload_n 1, 1) := by decide +kernel
theorem dd_Mo_pump_96 : decode cc_Mo_pump 96 = .ok (.iaload, 1) := by decide +kernel
theorem dd_Mo_pump_97 : decode cc_Mo_pump 97 = .ok (.iconst 1, 1) := by decide +kernel
theorem dd_Mo_pump_98 : decode cc_Mo_pump 98 = .ok (.isub, 1) := by decide +kernel
theorem dd_Mo_pump_99 : decode cc_Mo_pump 99 = .ok (.invokevirtual 200, 3) := by decide +kernel
theorem dd_Mo_pump_102 : decode cc_Mo_pump 102 = .ok (.goto (-61), 3) := by decide +kernel
theorem dd_Mo_pump_105 : decode cc_Mo_pump 105 = .ok (.iload_n 3, 1) := by decide +kernel
theorem dd_Mo_pump_106 : decode cc_Mo_pump 106 = .ok (.ireturn, 1) := by decide +kernel
theorem dd_Mo_tick_0 : decode cc_Mo_tick 0 = .ok (.aload_n 0, 1) := by decide +kernel
theorem dd_Mo_tick_1 : decode cc_Mo_tick 1 = .ok (.iload_n 1, 1) := by decide +kernel
theorem dd_Mo_tick_2 : decode cc_Mo_tick 2 = .ok (.invokevirtual 193, 3) := by decide +kernel
theorem dd_Mo_tick_5 : decode cc_Mo_tick 5 = .ok (.ifCond .eq 10, 3) := by decide +kernel
theorem dd_Mo_tick_8 : decode cc_Mo_tick 8 = .ok (.aload_n 0, 1) := by decide +kernel
theorem dd_Mo_tick_9 : decode cc_Mo_tick 9 = .ok (.invokevirtual 196, 3) := by decide +kernel
theorem dd_Mo_tick_12 : decode cc_Mo_tick 12 = .ok (.ifCond .eq 5, 3) := by decide +kernel
theorem dd_Mo_tick_15 : decode cc_Mo_tick 15 = .ok (.iconst 0, 1) := by decide +kernel
theorem dd_Mo_tick_16 : decode cc_Mo_tick 16 = .ok (.ireturn, 1) := by decide +kernel
theorem dd_Mo_tick_17 : decode cc_Mo_tick 17 = .ok (.aload_n 0, 1) := by decide +kernel
theorem dd_Mo_tick_18 : decode cc_Mo_tick 18 = .ok (.getfield 68, 3) := by decide +kernel
theorem dd_Mo_tick_21 : decode cc_Mo_tick 21 = .ok (.iload_n 1, 1) := by decide +kernel
theorem dd_Mo_tick_22 : decode cc_Mo_tick 22 = .ok (.aload_n 0, 1) := by decide +kernel
theorem dd_Mo_tick_23 : decode cc_Mo_tick 23 = .ok (.getfield 68, 3) := by decide +kernel
theorem dd_Mo_tick_26 : decode cc_Mo_tick 26 = .ok (.iload_n 1, 1) := by decide +kernel
theorem dd_Mo_tick_27 : decode cc_Mo_tick 27 = .ok (.iaload, 1) := by decide +kernel
theorem dd_Mo_tick_28 : decode cc_Mo_tick 28 = .ok (.iconst 3, 1) := by decide +kernel
theorem dd_Mo_tick_29 : decode cc_Mo_tick 29 = .ok (.if_icmp .ge 14, 3) := by decide +kernel
theorem dd_Mo_tick_32 : decode cc_Mo_tick 32 = .ok (.aload_n 0, 1) := by decide +kernel
theorem dd_Mo_tick_33 : decode cc_Mo_tick 33 = .ok (.getfield 68, 3) := by decide +kernel
theorem dd_Mo_tick_36 : decode cc_Mo_tick 36 = .ok (.iload_n 1, 1) := by decide +kernel
theorem dd_Mo_tick_37 : decode cc_Mo_tick 37 = .ok (.iaload, 1) := by decide +kernel
theorem dd_Mo_tick_38 : decode cc_Mo_tick 38 = .ok (.iconst 1, 1) := by decide +kernel
theorem dd_Mo_tick_39 : decode cc_Mo_tick 39 = .ok (.iadd, 1) := by decide +kernel
theorem dd_Mo_tick_40 : decode cc_Mo_tick 40 = .ok (.goto 4, 3) := by decide +kernel
theorem dd_Mo_tick_43 : decode cc_Mo_tick 43 = .ok (.iconst 3, 1) := by decide +kernel
theorem dd_Mo_tick_44 : decode cc_Mo_tick 44 = .ok (.iastore, 1) := by decide +kernel
theorem dd_Mo_tick_45 : decode cc_Mo_tick 45 = .ok (.aload_n 0, 1) := by decide +kernel
theorem dd_Mo_tick_46 : decode cc_Mo_tick 46 = .ok (.iload_n 1, 1) := by decide +kernel
theorem dd_Mo_tick_47 : decode cc_Mo_tick 47 = .ok (.invokevirtual 134, 3) := by decide +kernel
theorem dd_Mo_tick_50 : decode cc_Mo_tick 50 = .ok (.iconst 1, 1) := by decide +kernel
theorem dd_Mo_tick_51 : decode cc_Mo_tick 51 = .ok (.ireturn, 1) := by decide +kernel
theorem dd_Mo_crash_0 : decode cc_Mo_crash 0 = .ok (.aload_n 0, 1) := by decide +kernel
theorem dd_Mo_crash_1 : decode cc_Mo_crash 1 = .ok (.iload_n 1, 1) := by decide +kernel
theorem dd_Mo_crash_2 : decode cc_Mo_crash 2 = .ok (.invokevirtual 193, 3) := by decide +kernel
theorem dd_Mo_crash_5 : decode cc_Mo_crash 5 = .ok (.ifCond .ne 5, 3) := by decide +kernel
theorem dd_Mo_crash_8 : decode cc_Mo_crash 8 = .ok (.iconst 0, 1) := by decide +kernel
theorem dd_Mo_crash_9 : decode cc_Mo_crash 9 = .ok (.ireturn, 1) := by decide +kernel
theorem dd_Mo_crash_10 : decode cc_Mo_crash 10 = .ok (.aload_n 0, 1) := by decide +kernel
theorem dd_Mo_crash_11 : decode cc_Mo_crash 11 = .ok (.iload_n 1, 1) := by decide +kernel
theorem dd_Mo_crash_12 : decode cc_Mo_crash 12 = .ok (.invokevirtual 109, 3) := by decide +kernel
theorem dd_Mo_crash_15 : decode cc_Mo_crash 15 = .ok (.iconst 1, 1) := by decide +kernel
theorem dd_Mo_crash_16 : decode cc_Mo_crash 16 = .ok (.ireturn, 1) := by decide +kernel
theorem dd_Mo_restart_0 : decode cc_Mo_restart 0 = .ok (.aload_n 0, 1) := by decide +kernel
theorem dd_Mo_restart_1 : decode cc_Mo_restart 1 = .ok (.iload_n 1, 1) := by decide +kernel
theorem dd_Mo_restart_2 : decode cc_Mo_restart 2 = .ok (.invokevirtual 190, 3) := by decide +kernel
theorem dd_Mo_restart_5 : decode cc_Mo_restart 5 = .ok (.ifCond .eq 12, 3) := by decide +kernel
theorem dd_Mo_restart_8 : decode cc_Mo_restart 8 = .ok (.aload_n 0, 1) := by decide +kernel
theorem dd_Mo_restart_9 : decode cc_Mo_restart 9 = .ok (.getfield 50, 3) := by decide +kernel
theorem dd_Mo_restart_12 : decode cc_Mo_restart 12 = .ok (.iload_n 1, 1) := by decide +kernel
theorem dd_Mo_restart_13 : decode cc_Mo_restart 13 = .ok (.iaload, 1) := by decide +kernel
theorem dd_Mo_restart_14 : decode cc_Mo_restart 14 = .ok (.ifCond .eq 5, 3) := by decide +kernel
theorem dd_Mo_restart_17 : decode cc_Mo_restart 17 = .ok (.iconst 0, 1) := by decide +kernel
theorem dd_Mo_restart_18 : decode cc_Mo_restart 18 = .ok (.ireturn, 1) := by decide +kernel
theorem dd_Mo_restart_19 : decode cc_Mo_restart 19 = .ok (.aload_n 0, 1) := by decide +kernel
theorem dd_Mo_restart_20 : decode cc_Mo_restart 20 = .ok (.getfield 50, 3) := by decide +kernel
theorem dd_Mo_restart_23 : decode cc_Mo_restart 23 = .ok (.iload_n 1, 1) := by decide +kernel
theorem dd_Mo_restart_24 : decode cc_Mo_restart 24 = .ok (.iconst 1, 1) := by decide +kernel
theorem dd_Mo_restart_25 : decode cc_Mo_restart 25 = .ok (.iastore, 1) := by decide +kernel
theorem dd_Mo_restart_26 : decode cc_Mo_restart 26 = .ok (.aload_n 0, 1) := by decide +kernel
theorem dd_Mo_restart_27 : decode cc_Mo_restart 27 = .ok (.invokevirtual 196, 3) := by decide +kernel
theorem dd_Mo_restart_30 : decode cc_Mo_restart 30 = .ok (.ifCond .ne 8, 3) := by decide +kernel
theorem dd_Mo_restart_33 : decode cc_Mo_restart 33 = .ok (.aload_n 0, 1) := by decide +kernel
theorem dd_Mo_restart_34 : decode cc_Mo_restart 34 = .ok (.iload_n 1, 1) := by decide +kernel
theorem dd_Mo_restart_35 : decode cc_Mo_restart 35 = .ok (.invokevirtual 134, 3) := by decide +kernel
theorem dd_Mo_restart_38 : decode cc_Mo_restart 38 = .ok (.iconst 1, 1) := by decide +kernel
theorem dd_Mo_restart_39 : decode cc_Mo_restart 39 = .ok (.ireturn, 1) := by decide +kernel
theorem dd_Mo_cut_0 : decode cc_Mo_cut 0 = .ok (.aload_n 0, 1) := by decide +kernel
theorem dd_Mo_cut_1 : decode cc_Mo_cut 1 = .ok (.iload_n 1, 1) := by decide +kernel
theorem dd_Mo_cut_2 : decode cc_Mo_cut 2 = .ok (.invokevirtual 193, 3) := by decide +kernel
theorem dd_Mo_cut_5 : decode cc_Mo_cut 5 = .ok (.ifCond .eq 7, 3) := by decide +kernel
theorem dd_Mo_cut_8 : decode cc_Mo_cut 8 = .ok (.iload_n 2, 1) := by decide +kernel
theorem dd_Mo_cut_9 : decode cc_Mo_cut 9 = .ok (.ifCond .ge 5, 3) := by decide +kernel
theorem dd_Mo_cut_12 : decode cc_Mo_cut 12 = .ok (.iconst 0, 1) := by decide +kernel
theorem dd_Mo_cut_13 : decode cc_Mo_cut 13 = .ok (.ireturn, 1) := by decide +kernel
theorem dd_Mo_cut_14 : decode cc_Mo_cut 14 = .ok (.aload_n 0, 1) := by decide +kernel
theorem dd_Mo_cut_15 : decode cc_Mo_cut 15 = .ok (.getfield 56, 3) := by decide +kernel
theorem dd_Mo_cut_18 : decode cc_Mo_cut 18 = .ok (.iload_n 1, 1) := by decide +kernel
theorem dd_Mo_cut_19 : decode cc_Mo_cut 19 = .ok (.iload_n 2, 1) := by decide +kernel
theorem dd_Mo_cut_20 : decode cc_Mo_cut 20 = .ok (.iastore, 1) := by decide +kernel
theorem dd_Mo_cut_21 : decode cc_Mo_cut 21 = .ok (.iconst 1, 1) := by decide +kernel
theorem dd_Mo_cut_22 : decode cc_Mo_cut 22 = .ok (.ireturn, 1) := by decide +kernel
theorem dd_Mo_corrupt_0 : decode cc_Mo_corrupt 0 = .ok (.aload_n 0, 1) := by decide +kernel
theorem dd_Mo_corrupt_1 : decode cc_Mo_corrupt 1 = .ok (.iload_n 1, 1) := by decide +kernel
theorem dd_Mo_corrupt_2 : decode cc_Mo_corrupt 2 = .ok (.invokevirtual 190, 3) := by decide +kernel
theorem dd_Mo_corrupt_5 : decode cc_Mo_corrupt 5 = .ok (.ifCond .eq 10, 3) := by decide +kernel
theorem dd_Mo_corrupt_8 : decode cc_Mo_corrupt 8 = .ok (.aload_n 0, 1) := by decide +kernel
theorem dd_Mo_corrupt_9 : decode cc_Mo_corrupt 9 = .ok (.invokevirtual 203, 3) := by decide +kernel
theorem dd_Mo_corrupt_12 : decode cc_Mo_corrupt 12 = .ok (.ifCond .lt 5, 3) := by decide +kernel
theorem dd_Mo_corrupt_15 : decode cc_Mo_corrupt 15 = .ok (.iconst 0, 1) := by decide +kernel
theorem dd_Mo_corrupt_16 : decode cc_Mo_corrupt 16 = .ok (.ireturn, 1) := by decide +kernel
theorem dd_Mo_corrupt_17 : decode cc_Mo_corrupt 17 = .ok (.aload_n 0, 1) := by decide +kernel
theorem dd_Mo_corrupt_18 : decode cc_Mo_corrupt 18 = .ok (.aload_n 0, 1) := by decide +kernel
theorem dd_Mo_corrupt_19 : decode cc_Mo_corrupt 19 = .ok (.getfield 50, 3) := by decide +kernel
theorem dd_Mo_corrupt_22 : decode cc_Mo_corrupt 22 = .ok (.iload_n 1, 1) := by decide +kernel
theorem dd_Mo_corrupt_23 : decode cc_Mo_corrupt 23 = .ok (.iaload, 1) := by decide +kernel
theorem dd_Mo_corrupt_24 : decode cc_Mo_corrupt 24 = .ok (.ifCond .ne 7, 3) := by decide +kernel
theorem dd_Mo_corrupt_27 : decode cc_Mo_corrupt 27 = .ok (.iconst 1, 1) := by decide +kernel
theorem dd_Mo_corrupt_28 : decode cc_Mo_corrupt 28 = .ok (.goto 4, 3) := by decide +kernel
theorem dd_Mo_corrupt_31 : decode cc_Mo_corrupt 31 = .ok (.iconst 0, 1) := by decide +kernel
theorem dd_Mo_corrupt_32 : decode cc_Mo_corrupt 32 = .ok (.putfield 207, 3) := by decide +kernel
theorem dd_Mo_corrupt_35 : decode cc_Mo_corrupt 35 = .ok (.aload_n 0, 1) := by decide +kernel
theorem dd_Mo_corrupt_36 : decode cc_Mo_corrupt 36 = .ok (.getfield 50, 3) := by decide +kernel
theorem dd_Mo_corrupt_39 : decode cc_Mo_corrupt 39 = .ok (.iload_n 1, 1) := by decide +kernel
theorem dd_Mo_corrupt_40 : decode cc_Mo_corrupt 40 = .ok (.iconst 2, 1) := by decide +kernel
theorem dd_Mo_corrupt_41 : decode cc_Mo_corrupt 41 = .ok (.iastore, 1) := by decide +kernel
theorem dd_Mo_corrupt_42 : decode cc_Mo_corrupt 42 = .ok (.iconst 1, 1) := by decide +kernel
theorem dd_Mo_corrupt_43 : decode cc_Mo_corrupt 43 = .ok (.ireturn, 1) := by decide +kernel
theorem dd_Mo_faulty_0 : decode cc_Mo_faulty 0 = .ok (.iconst 0, 1) := by decide +kernel
theorem dd_Mo_faulty_1 : decode cc_Mo_faulty 1 = .ok (.istore_n 1, 1) := by decide +kernel
theorem dd_Mo_faulty_2 : decode cc_Mo_faulty 2 = .ok (.iload_n 1, 1) := by decide +kernel
theorem dd_Mo_faulty_3 : decode cc_Mo_faulty 3 = .ok (.iconst 4, 1) := by decide +kernel
theorem dd_Mo_faulty_4 : decode cc_Mo_faulty 4 = .ok (.if_icmp .ge 21, 3) := by decide +kernel
theorem dd_Mo_faulty_7 : decode cc_Mo_faulty 7 = .ok (.aload_n 0, 1) := by decide +kernel
theorem dd_Mo_faulty_8 : decode cc_Mo_faulty 8 = .ok (.getfield 50, 3) := by decide +kernel
theorem dd_Mo_faulty_11 : decode cc_Mo_faulty 11 = .ok (.iload_n 1, 1) := by decide +kernel
theorem dd_Mo_faulty_12 : decode cc_Mo_faulty 12 = .ok (.iaload, 1) := by decide +kernel
theorem dd_Mo_faulty_13 : decode cc_Mo_faulty 13 = .ok (.iconst 2, 1) := by decide +kernel
theorem dd_Mo_faulty_14 : decode cc_Mo_faulty 14 = .ok (.if_icmp .ne 5, 3) := by decide +kernel
theorem dd_Mo_faulty_17 : decode cc_Mo_faulty 17 = .ok (.iload_n 1, 1) := by decide +kernel
theorem dd_Mo_faulty_18 : decode cc_Mo_faulty 18 = .ok (.ireturn, 1) := by decide +kernel
theorem dd_Mo_faulty_19 : decode cc_Mo_faulty 19 = .ok (.iinc 1 1, 3) := by decide +kernel
theorem dd_Mo_faulty_22 : decode cc_Mo_faulty 22 = .ok (.goto (-20), 3) := by decide +kernel
theorem dd_Mo_faulty_25 : decode cc_Mo_faulty 25 = .ok (.iconst (-1), 1) := by decide +kernel
theorem dd_Mo_faulty_26 : decode cc_Mo_faulty 26 = .ok (.ireturn, 1) := by decide +kernel
theorem dd_Mo_forge_0 : decode cc_Mo_forge 0 = .ok (.aload_n 0, 1) := by decide +kernel
theorem dd_Mo_forge_1 : decode cc_Mo_forge 1 = .ok (.iconst 0, 1) := by decide +kernel
theorem dd_Mo_forge_2 : decode cc_Mo_forge 2 = .ok (.putfield 105, 3) := by decide +kernel
theorem dd_Mo_forge_5 : decode cc_Mo_forge 5 = .ok (.aload_n 0, 1) := by decide +kernel
theorem dd_Mo_forge_6 : decode cc_Mo_forge 6 = .ok (.invokevirtual 203, 3) := by decide +kernel
theorem dd_Mo_forge_9 : decode cc_Mo_forge 9 = .ok (.ifCond .lt 56, 3) := by decide +kernel
theorem dd_Mo_forge_12 : decode cc_Mo_forge 12 = .ok (.iload_n 1, 1) := by decide +kernel
theorem dd_Mo_forge_13 : decode cc_Mo_forge 13 = .ok (.iconst 1, 1) := by decide +kernel
theorem dd_Mo_forge_14 : decode cc_Mo_forge 14 = .ok (.bipush 14, 2) := by decide +kernel
theorem dd_Mo_forge_16 : decode cc_Mo_forge 16 = .ok (.invokestatic 186, 3) := by decide +kernel
theorem dd_Mo_forge_19 : decode cc_Mo_forge 19 = .ok (.ifCond .eq 46, 3) := by decide +kernel
theorem dd_Mo_forge_22 : decode cc_Mo_forge 22 = .ok (.iload_n 2, 1) := by decide +kernel
theorem dd_Mo_forge_23 : decode cc_Mo_forge 23 = .ok (.iconst 0, 1) := by decide +kernel
theorem dd_Mo_forge_24 : decode cc_Mo_forge 24 = .ok (.bipush 15, 2) := by decide +kernel
theorem dd_Mo_forge_26 : decode cc_Mo_forge 26 = .ok (.invokestatic 186, 3) := by decide +kernel
theorem dd_Mo_forge_29 : decode cc_Mo_forge 29 = .ok (.ifCond .eq 36, 3) := by decide +kernel
theorem dd_Mo_forge_32 : decode cc_Mo_forge 32 = .ok (.aload_n 0, 1) := by decide +kernel
theorem dd_Mo_forge_33 : decode cc_Mo_forge 33 = .ok (.iload_n 3, 1) := by decide +kernel
theorem dd_Mo_forge_34 : decode cc_Mo_forge 34 = .ok (.invokevirtual 211, 3) := by decide +kernel
theorem dd_Mo_forge_37 : decode cc_Mo_forge 37 = .ok (.ifCond .eq 28, 3) := by decide +kernel
theorem dd_Mo_forge_40 : decode cc_Mo_forge 40 = .ok (.aload_n 0, 1) := by decide +kernel
theorem dd_Mo_forge_41 : decode cc_Mo_forge 41 = .ok (.iload 4, 2) := by decide +kernel
theorem dd_Mo_forge_43 : decode cc_Mo_forge 43 = .ok (.invokevirtual 211, 3) := by decide +kernel
theorem dd_Mo_forge_46 : decode cc_Mo_forge 46 = .ok (.ifCond .eq 19, 3) := by decide +kernel
theorem dd_Mo_forge_49 : decode cc_Mo_forge 49 = .ok (.aload_n 0, 1) := by decide +kernel
theorem dd_Mo_forge_50 : decode cc_Mo_forge 50 = .ok (.getfield 153, 3) := by decide +kernel
theorem dd_Mo_forge_53 : decode cc_Mo_forge 53 = .ok (.bipush 90, 2) := by decide +kernel
theorem dd_Mo_forge_55 : decode cc_Mo_forge 55 = .ok (.if_icmp .eq 10, 3) := by decide +kernel
theorem dd_Mo_forge_58 : decode cc_Mo_forge 58 = .ok (.aload_n 0, 1) := by decide +kernel
theorem dd_Mo_forge_59 : decode cc_Mo_forge 59 = .ok (.invokevirtual 196, 3) := by decide +kernel
theorem dd_Mo_forge_62 : decode cc_Mo_forge 62 = .ok (.ifCond .eq 5, 3) := by decide +kernel
theorem dd_Mo_forge_65 : decode cc_Mo_forge 65 = .ok (.iconst (-1), 1) := by decide +kernel
theorem dd_Mo_forge_66 : decode cc_Mo_forge 66 = .ok (.ireturn, 1) := by decide +kernel
theorem dd_Mo_forge_67 : decode cc_Mo_forge 67 = .ok (.aload_n 0, 1) := by decide +kernel
theorem dd_Mo_forge_68 : decode cc_Mo_forge 68 = .ok (.aload_n 0, 1) := by decide +kernel
theorem dd_Mo_forge_69 : decode cc_Mo_forge 69 = .ok (.invokevirtual 203, 3) := by decide +kernel
theorem dd_Mo_forge_72 : decode cc_Mo_forge 72 = .ok (.iload_n 1, 1) := by decide +kernel
theorem dd_Mo_forge_73 : decode cc_Mo_forge 73 = .ok (.iload_n 2, 1) := by decide +kernel
theorem dd_Mo_forge_74 : decode cc_Mo_forge 74 = .ok (.iload_n 3, 1) := by decide +kernel
theorem dd_Mo_forge_75 : decode cc_Mo_forge 75 = .ok (.iload 4, 2) := by decide +kernel
theorem dd_Mo_forge_77 : decode cc_Mo_forge 77 = .ok (.invokevirtual 182, 3) := by decide +kernel
theorem dd_Mo_forge_80 : decode cc_Mo_forge 80 = .ok (.istore 5, 2) := by decide +kernel
theorem dd_Mo_forge_82 : decode cc_Mo_forge 82 = .ok (.aload_n 0, 1) := by decide +kernel
theorem dd_Mo_forge_83 : decode cc_Mo_forge 83 = .ok (.aload_n 0, 1) := by decide +kernel
theorem dd_Mo_forge_84 : decode cc_Mo_forge 84 = .ok (.invokevirtual 203, 3) := by decide +kernel
theorem dd_Mo_forge_87 : decode cc_Mo_forge 87 = .ok (.iload 5, 2) := by decide +kernel
theorem dd_Mo_forge_89 : decode cc_Mo_forge 89 = .ok (.iconst 0, 1) := by decide +kernel
theorem dd_Mo_forge_90 : decode cc_Mo_forge 90 = .ok (.invokevirtual 130, 3) := by decide +kernel
theorem dd_Mo_forge_93 : decode cc_Mo_forge 93 = .ok (.pop, 1) := by decide +kernel
theorem dd_Mo_forge_94 : decode cc_Mo_forge 94 = .ok (.iload 5, 2) := by decide +kernel
theorem dd_Mo_forge_96 : decode cc_Mo_forge 96 = .ok (.ireturn, 1) := by decide +kernel
theorem dd_Mo_isTransfer_0 : decode cc_Mo_isTransfer 0 = .ok (.iload_n 1, 1) := by decide +kernel
theorem dd_Mo_isTransfer_1 : decode cc_Mo_isTransfer 1 = .ok (.iconst (-1), 1) := by decide +kernel
theorem dd_Mo_isTransfer_2 : decode cc_Mo_isTransfer 2 = .ok (.if_icmp .lt 15, 3) := by decide +kernel
theorem dd_Mo_isTransfer_5 : decode cc_Mo_isTransfer 5 = .ok (.iload_n 1, 1) := by decide +kernel
theorem dd_Mo_isTransfer_6 : decode cc_Mo_isTransfer 6 = .ok (.aload_n 0, 1) := by decide +kernel
theorem dd_Mo_isTransfer_7 : decode cc_Mo_isTransfer 7 = .ok (.getfield 176, 3) := by decide +kernel
theorem dd_Mo_isTransfer_10 : decode cc_Mo_isTransfer 10 = .ok (.if_icmp .ge 7, 3) := by decide +kernel
theorem dd_Mo_isTransfer_13 : decode cc_Mo_isTransfer 13 = .ok (.iconst 1, 1) := by decide +kernel
theorem dd_Mo_isTransfer_14 : decode cc_Mo_isTransfer 14 = .ok (.goto 4, 3) := by decide +kernel
theorem dd_Mo_isTransfer_17 : decode cc_Mo_isTransfer 17 = .ok (.iconst 0, 1) := by decide +kernel
theorem dd_Mo_isTransfer_18 : decode cc_Mo_isTransfer 18 = .ok (.ireturn, 1) := by decide +kernel
theorem dd_Mo_send_0 : decode cc_Mo_send 0 = .ok (.aload_n 0, 1) := by decide +kernel
theorem dd_Mo_send_1 : decode cc_Mo_send 1 = .ok (.iconst 0, 1) := by decide +kernel
theorem dd_Mo_send_2 : decode cc_Mo_send 2 = .ok (.putfield 105, 3) := by decide +kernel
theorem dd_Mo_send_5 : decode cc_Mo_send 5 = .ok (.aload_n 0, 1) := by decide +kernel
theorem dd_Mo_send_6 : decode cc_Mo_send 6 = .ok (.invokevirtual 203, 3) := by decide +kernel
theorem dd_Mo_send_9 : decode cc_Mo_send 9 = .ok (.ifCond .lt 33, 3) := by decide +kernel
theorem dd_Mo_send_12 : decode cc_Mo_send 12 = .ok (.iload_n 1, 1) := by decide +kernel
theorem dd_Mo_send_13 : decode cc_Mo_send 13 = .ok (.iconst 0, 1) := by decide +kernel
theorem dd_Mo_send_14 : decode cc_Mo_send 14 = .ok (.iconst 2, 1) := by decide +kernel
theorem dd_Mo_send_15 : decode cc_Mo_send 15 = .ok (.invokestatic 186, 3) := by decide +kernel
theorem dd_Mo_send_18 : decode cc_Mo_send 18 = .ok (.ifCond .eq 24, 3) := by decide +kernel
theorem dd_Mo_send_21 : decode cc_Mo_send 21 = .ok (.iload_n 2, 1) := by decide +kernel
theorem dd_Mo_send_22 : decode cc_Mo_send 22 = .ok (.iconst 0, 1) := by decide +kernel
theorem dd_Mo_send_23 : decode cc_Mo_send 23 = .ok (.aload_n 0, 1) := by decide +kernel
theorem dd_Mo_send_24 : decode cc_Mo_send 24 = .ok (.getfield 153, 3) := by decide +kernel
theorem dd_Mo_send_27 : decode cc_Mo_send 27 = .ok (.iconst 1, 1) := by decide +kernel
theorem dd_Mo_send_28 : decode cc_Mo_send 28 = .ok (.isub, 1) := by decide +kernel
theorem dd_Mo_send_29 : decode cc_Mo_send 29 = .ok (.invokestatic 186, 3) := by decide +kernel
theorem dd_Mo_send_32 : decode cc_Mo_send 32 = .ok (.ifCond .eq 10, 3) := by decide +kernel
theorem dd_Mo_send_35 : decode cc_Mo_send 35 = .ok (.aload_n 0, 1) := by decide +kernel
theorem dd_Mo_send_36 : decode cc_Mo_send 36 = .ok (.invokevirtual 196, 3) := by decide +kernel
theorem dd_Mo_send_39 : decode cc_Mo_send 39 = .ok (.ifCond .eq 7, 3) := by decide +kernel
theorem dd_Mo_send_42 : decode cc_Mo_send 42 = .ok (.iconst (-1), 1) := by decide +kernel
theorem dd_Mo_send_43 : decode cc_Mo_send 43 = .ok (.goto 13, 3) := by decide +kernel
theorem dd_Mo_send_46 : decode cc_Mo_send 46 = .ok (.aload_n 0, 1) := by decide +kernel
theorem dd_Mo_send_47 : decode cc_Mo_send 47 = .ok (.aload_n 0, 1) := by decide +kernel
theorem dd_Mo_send_48 : decode cc_Mo_send 48 = .ok (.invokevirtual 203, 3) := by decide +kernel
theorem dd_Mo_send_51 : decode cc_Mo_send 51 = .ok (.iload_n 2, 1) := by decide +kernel
theorem dd_Mo_send_52 : decode cc_Mo_send 52 = .ok (.iload_n 1, 1) := by decide +kernel
theorem dd_Mo_send_53 : decode cc_Mo_send 53 = .ok (.invokevirtual 130, 3) := by decide +kernel
theorem dd_Mo_send_56 : decode cc_Mo_send 56 = .ok (.ireturn, 1) := by decide +kernel
theorem dd_Mo_message_0 : decode cc_Mo_message 0 = .ok (.aload_n 0, 1) := by decide +kernel
theorem dd_Mo_message_1 : decode cc_Mo_message 1 = .ok (.iconst 0, 1) := by decide +kernel
theorem dd_Mo_message_2 : decode cc_Mo_message 2 = .ok (.putfield 105, 3) := by decide +kernel
theorem dd_Mo_message_5 : decode cc_Mo_message 5 = .ok (.iload_n 1, 1) := by decide +kernel
theorem dd_Mo_message_6 : decode cc_Mo_message 6 = .ok (.iconst 0, 1) := by decide +kernel
theorem dd_Mo_message_7 : decode cc_Mo_message 7 = .ok (.aload_n 0, 1) := by decide +kernel
theorem dd_Mo_message_8 : decode cc_Mo_message 8 = .ok (.getfield 112, 3) := by decide +kernel
theorem dd_Mo_message_11 : decode cc_Mo_message 11 = .ok (.iconst 1, 1) := by decide +kernel
theorem dd_Mo_message_12 : decode cc_Mo_message 12 = .ok (.isub, 1) := by decide +kernel
theorem dd_Mo_message_13 : decode cc_Mo_message 13 = .ok (.invokestatic 186, 3) := by decide +kernel
theorem dd_Mo_message_16 : decode cc_Mo_message 16 = .ok (.ifCond .eq 12, 3) := by decide +kernel
theorem dd_Mo_message_19 : decode cc_Mo_message 19 = .ok (.iload_n 2, 1) := by decide +kernel
theorem dd_Mo_message_20 : decode cc_Mo_message 20 = .ok (.iconst 0, 1) := by decide +kernel
theorem dd_Mo_message_21 : decode cc_Mo_message 21 = .ok (.iconst 2, 1) := by decide +kernel
theorem dd_Mo_message_22 : decode cc_Mo_message 22 = .ok (.invokestatic 186, 3) := by decide +kernel
theorem dd_Mo_message_25 : decode cc_Mo_message 25 = .ok (.ifCond .ne 7, 3) := by decide +kernel
theorem dd_Mo_message_28 : decode cc_Mo_message 28 = .ok (.iconst (-1), 1) := by decide +kernel
theorem dd_Mo_message_29 : decode cc_Mo_message 29 = .ok (.goto 36, 3) := by decide +kernel
theorem dd_Mo_message_32 : decode cc_Mo_message 32 = .ok (.iload_n 2, 1) := by decide +kernel
theorem dd_Mo_message_33 : decode cc_Mo_message 33 = .ok (.ifCond .ne 12, 3) := by decide +kernel
theorem dd_Mo_message_36 : decode cc_Mo_message 36 = .ok (.aload_n 0, 1) := by decide +kernel
theorem dd_Mo_message_37 : decode cc_Mo_message 37 = .ok (.getfield 47, 3) := by decide +kernel
theorem dd_Mo_message_40 : decode cc_Mo_message 40 = .ok (.iload_n 1, 1) := by decide +kernel
theorem dd_Mo_message_41 : decode cc_Mo_message 41 = .ok (.iaload, 1) := by decide +kernel
theorem dd_Mo_message_42 : decode cc_Mo_message 42 = .ok (.goto 23, 3) := by decide +kernel
theorem dd_Mo_message_45 : decode cc_Mo_message 45 = .ok (.iload_n 2, 1) := by decide +kernel
theorem dd_Mo_message_46 : decode cc_Mo_message 46 = .ok (.iconst 1, 1) := by decide +kernel
theorem dd_Mo_message_47 : decode cc_Mo_message 47 = .ok (.if_icmp .ne 12, 3) := by decide +kernel
theorem dd_Mo_message_50 : decode cc_Mo_message 50 = .ok (.aload_n 0, 1) := by decide +kernel
theorem dd_Mo_message_51 : decode cc_Mo_message 51 = .ok (.getfield 41, 3) := by decide +kernel
theorem dd_Mo_message_54 : decode cc_Mo_message 54 = .ok (.iload_n 1, 1) := by decide +kernel
theorem dd_Mo_message_55 : decode cc_Mo_message 55 = .ok (.iaload, 1) := by decide +kernel
theorem dd_Mo_message_56 : decode cc_Mo_message 56 = .ok (.goto 9, 3) := by decide +kernel
theorem dd_Mo_message_59 : decode cc_Mo_message 59 = .ok (.aload_n 0, 1) := by decide +kernel
theorem dd_Mo_message_60 : decode cc_Mo_message 60 = .ok (.getfield 44, 3) := by decide +kernel
theorem dd_Mo_message_63 : decode cc_Mo_message 63 = .ok (.iload_n 1, 1) := by decide +kernel
theorem dd_Mo_message_64 : decode cc_Mo_message 64 = .ok (.iaload, 1) := by decide +kernel
theorem dd_Mo_message_65 : decode cc_Mo_message 65 = .ok (.ireturn, 1) := by decide +kernel
theorem dd_Mo_vertex_0 : decode cc_Mo_vertex 0 = .ok (.aload_n 0, 1) := by decide +kernel
theorem dd_Mo_vertex_1 : decode cc_Mo_vertex 1 = .ok (.iconst 0, 1) := by decide +kernel
theorem dd_Mo_vertex_2 : decode cc_Mo_vertex 2 = .ok (.putfield 105, 3) := by decide +kernel
theorem dd_Mo_vertex_5 : decode cc_Mo_vertex 5 = .ok (.iload_n 1, 1) := by decide +kernel
theorem dd_Mo_vertex_6 : decode cc_Mo_vertex 6 = .ok (.iconst 0, 1) := by decide +kernel
theorem dd_Mo_vertex_7 : decode cc_Mo_vertex 7 = .ok (.aload_n 0, 1) := by decide +kernel
theorem dd_Mo_vertex_8 : decode cc_Mo_vertex 8 = .ok (.getfield 153, 3) := by decide +kernel
theorem dd_Mo_vertex_11 : decode cc_Mo_vertex 11 = .ok (.iconst 1, 1) := by decide +kernel
theorem dd_Mo_vertex_12 : decode cc_Mo_vertex 12 = .ok (.isub, 1) := by decide +kernel
theorem dd_Mo_vertex_13 : decode cc_Mo_vertex 13 = .ok (.invokestatic 186, 3) := by decide +kernel
theorem dd_Mo_vertex_16 : decode cc_Mo_vertex 16 = .ok (.ifCond .eq 12, 3) := by decide +kernel
theorem dd_Mo_vertex_19 : decode cc_Mo_vertex 19 = .ok (.iload_n 2, 1) := by decide +kernel
theorem dd_Mo_vertex_20 : decode cc_Mo_vertex 20 = .ok (.iconst 0, 1) := by decide +kernel
theorem dd_Mo_vertex_21 : decode cc_Mo_vertex 21 = .ok (.iconst 4, 1) := by decide +kernel
theorem dd_Mo_vertex_22 : decode cc_Mo_vertex 22 = .ok (.invokestatic 186, 3) := by decide +kernel
theorem dd_Mo_vertex_25 : decode cc_Mo_vertex 25 = .ok (.ifCond .ne 5, 3) := by decide +kernel
theorem dd_Mo_vertex_28 : decode cc_Mo_vertex 28 = .ok (.iconst (-1), 1) := by decide +kernel
theorem dd_Mo_vertex_29 : decode cc_Mo_vertex 29 = .ok (.ireturn, 1) := by decide +kernel
theorem dd_Mo_vertex_30 : decode cc_Mo_vertex 30 = .ok (.iload_n 2, 1) := by decide +kernel
theorem dd_Mo_vertex_31 : decode cc_Mo_vertex 31 = .ok (.ifCond .ne 12, 3) := by decide +kernel
theorem dd_Mo_vertex_34 : decode cc_Mo_vertex 34 = .ok (.aload_n 0, 1) := by decide +kernel
theorem dd_Mo_vertex_35 : decode cc_Mo_vertex 35 = .ok (.getfield 26, 3) := by decide +kernel
theorem dd_Mo_vertex_38 : decode cc_Mo_vertex 38 = .ok (.iload_n 1, 1) := by decide +kernel
theorem dd_Mo_vertex_39 : decode cc_Mo_vertex 39 = .ok (.iaload, 1) := by decide +kernel
theorem dd_Mo_vertex_40 : decode cc_Mo_vertex 40 = .ok (.goto 51, 3) := by decide +kernel
theorem dd_Mo_vertex_43 : decode cc_Mo_vertex 43 = .ok (.iload_n 2, 1) := by decide +kernel
theorem dd_Mo_vertex_44 : decode cc_Mo_vertex 44 = .ok (.iconst 1, 1) := by decide +kernel
theorem dd_Mo_vertex_45 : decode cc_Mo_vertex 45 = .ok (.if_icmp .ne 12, 3) := by decide +kernel
theorem dd_Mo_vertex_48 : decode cc_Mo_vertex 48 = .ok (.aload_n 0, 1) := by decide +kernel
theorem dd_Mo_vertex_49 : decode cc_Mo_vertex 49 = .ok (.getfield 29, 3) := by decide +kernel
theorem dd_Mo_vertex_52 : decode cc_Mo_vertex 52 = .ok (.iload_n 1, 1) := by decide +kernel
theorem dd_Mo_vertex_53 : decode cc_Mo_vertex 53 = .ok (.iaload, 1) := by decide +kernel
theorem dd_Mo_vertex_54 : decode cc_Mo_vertex 54 = .ok (.goto 37, 3) := by decide +kernel
theorem dd_Mo_vertex_57 : decode cc_Mo_vertex 57 = .ok (.iload_n 2, 1) := by decide +kernel
theorem dd_Mo_vertex_58 : decode cc_Mo_vertex 58 = .ok (.iconst 2, 1) := by decide +kernel
theorem dd_Mo_vertex_59 : decode cc_Mo_vertex 59 = .ok (.if_icmp .ne 12, 3) := by decide +kernel
theorem dd_Mo_vertex_62 : decode cc_Mo_vertex 62 = .ok (.aload_n 0, 1) := by decide +kernel
theorem dd_Mo_vertex_63 : decode cc_Mo_vertex 63 = .ok (.getfield 32, 3) := by decide +kernel
theorem dd_Mo_vertex_66 : decode cc_Mo_vertex 66 = .ok (.iload_n 1, 1) := by decide +kernel
theorem dd_Mo_vertex_67 : decode cc_Mo_vertex 67 = .ok (.iaload, 1) := by decide +kernel
theorem dd_Mo_vertex_68 : decode cc_Mo_vertex 68 = .ok (.goto 23, 3) := by decide +kernel
theorem dd_Mo_vertex_71 : decode cc_Mo_vertex 71 = .ok (.iload_n 2, 1) := by decide +kernel
theorem dd_Mo_vertex_72 : decode cc_Mo_vertex 72 = .ok (.iconst 3, 1) := by decide +kernel
theorem dd_Mo_vertex_73 : decode cc_Mo_vertex 73 = .ok (.if_icmp .ne 12, 3) := by decide +kernel
theorem dd_Mo_vertex_76 : decode cc_Mo_vertex 76 = .ok (.aload_n 0, 1) := by decide +kernel
theorem dd_Mo_vertex_77 : decode cc_Mo_vertex 77 = .ok (.getfield 35, 3) := by decide +kernel
theorem dd_Mo_vertex_80 : decode cc_Mo_vertex 80 = .ok (.iload_n 1, 1) := by decide +kernel
theorem dd_Mo_vertex_81 : decode cc_Mo_vertex 81 = .ok (.iaload, 1) := by decide +kernel
theorem dd_Mo_vertex_82 : decode cc_Mo_vertex 82 = .ok (.goto 9, 3) := by decide +kernel
theorem dd_Mo_vertex_85 : decode cc_Mo_vertex 85 = .ok (.aload_n 0, 1) := by decide +kernel
theorem dd_Mo_vertex_86 : decode cc_Mo_vertex 86 = .ok (.getfield 38, 3) := by decide +kernel
theorem dd_Mo_vertex_89 : decode cc_Mo_vertex 89 = .ok (.iload_n 1, 1) := by decide +kernel
theorem dd_Mo_vertex_90 : decode cc_Mo_vertex 90 = .ok (.iaload, 1) := by decide +kernel
theorem dd_Mo_vertex_91 : decode cc_Mo_vertex 91 = .ok (.ireturn, 1) := by decide +kernel
theorem dd_Mo_node_0 : decode cc_Mo_node 0 = .ok (.aload_n 0, 1) := by decide +kernel
theorem dd_Mo_node_1 : decode cc_Mo_node 1 = .ok (.iload_n 1, 1) := by decide +kernel
theorem dd_Mo_node_2 : decode cc_Mo_node 2 = .ok (.invokevirtual 190, 3) := by decide +kernel
theorem dd_Mo_node_5 : decode cc_Mo_node 5 = .ok (.ifCond .ne 5, 3) := by decide +kernel
theorem dd_Mo_node_8 : decode cc_Mo_node 8 = .ok (.iconst 0, 1) := by decide +kernel
theorem dd_Mo_node_9 : decode cc_Mo_node 9 = .ok (.ireturn, 1) := by decide +kernel
theorem dd_Mo_node_10 : decode cc_Mo_node 10 = .ok (.iconst 0, 1) := by decide +kernel
theorem dd_Mo_node_11 : decode cc_Mo_node 11 = .ok (.istore_n 3, 1) := by decide +kernel
theorem dd_Mo_node_12 : decode cc_Mo_node 12 = .ok (.iload_n 2, 1) := by decide +kernel
theorem dd_Mo_node_13 : decode cc_Mo_node 13 = .ok (.iconst 5, 1) := by decide +kernel
theorem dd_Mo_node_14 : decode cc_Mo_node 14 = .ok (.if_icmp .ne 32, 3) := by decide +kernel
theorem dd_Mo_node_17 : decode cc_Mo_node 17 = .ok (.iconst 1, 1) := by decide +kernel
theorem dd_Mo_node_18 : decode cc_Mo_node 18 = .ok (.istore 4, 2) := by decide +kernel
theorem dd_Mo_node_20 : decode cc_Mo_node 20 = .ok (.iload 4, 2) := by decide +kernel
theorem dd_Mo_node_22 : decode cc_Mo_node 22 = .ok (.bipush 15, 2) := by decide +kernel
theorem dd_Mo_node_24 : decode cc_Mo_node 24 = .ok (.if_icmp .ge 22, 3) := by decide +kernel
theorem dd_Mo_node_27 : decode cc_Mo_node 27 = .ok (.iload_n 3, 1) := by decide +kernel
theorem dd_Mo_node_28 : decode cc_Mo_node 28 = .ok (.aload_n 0, 1) := by decide +kernel
theorem dd_Mo_node_29 : decode cc_Mo_node 29 = .ok (.iload_n 1, 1) := by decide +kernel
theorem dd_Mo_node_30 : decode cc_Mo_node 30 = .ok (.iload 4, 2) := by decide +kernel
theorem dd_Mo_node_32 : decode cc_Mo_node 32 = .ok (.invokevirtual 156, 3) := by decide +kernel
theorem dd_Mo_node_35 : decode cc_Mo_node 35 = .ok (.invokestatic 115, 3) := by decide +kernel
theorem dd_Mo_node_38 : decode cc_Mo_node 38 = .ok (.iadd, 1) := by decide +kernel
theorem dd_Mo_node_39 : decode cc_Mo_node 39 = .ok (.istore_n 3, 1) := by decide +kernel
theorem dd_Mo_node_40 : decode cc_Mo_node 40 = .ok (.iinc 4 1, 3) := by decide +kernel
theorem dd_Mo_node_43 : decode cc_Mo_node 43 = .ok (.goto (-23), 3) := by decide +kernel
theorem dd_Mo_node_46 : decode cc_Mo_node 46 = .ok (.iconst 0, 1) := by decide +kernel
theorem dd_Mo_node_47 : decode cc_Mo_node 47 = .ok (.istore 4, 2) := by decide +kernel
theorem dd_Mo_node_49 : decode cc_Mo_node 49 = .ok (.iload 4, 2) := by decide +kernel
theorem dd_Mo_node_51 : decode cc_Mo_node 51 = .ok (.aload_n 0, 1) := by decide +kernel
theorem dd_Mo_node_52 : decode cc_Mo_node 52 = .ok (.getfield 176, 3) := by decide +kernel
theorem dd_Mo_node_55 : decode cc_Mo_node 55 = .ok (.if_icmp .ge 44, 3) := by decide +kernel
theorem dd_Mo_node_58 : decode cc_Mo_node 58 = .ok (.iload_n 2, 1) := by decide +kernel
theorem dd_Mo_node_59 : decode cc_Mo_node 59 = .ok (.bipush 7, 2) := by decide +kernel
theorem dd_Mo_node_61 : decode cc_Mo_node 61 = .ok (.if_icmp .ne 38, 3) := by decide +kernel
theorem dd_Mo_node_64 : decode cc_Mo_node 64 = .ok (.iload_n 3, 1) := by decide +kernel
theorem dd_Mo_node_65 : decode cc_Mo_node 65 = .ok (.aload_n 0, 1) := by decide +kernel
theorem dd_Mo_node_66 : decode cc_Mo_node 66 = .ok (.getfield 19, 3) := by decide +kernel
theorem dd_Mo_node_69 : decode cc_Mo_node 69 = .ok (.iload 4, 2) := by decide +kernel
theorem dd_Mo_node_71 : decode cc_Mo_node 71 = .ok (.iaload, 1) := by decide +kernel
theorem dd_Mo_node_72 : decode cc_Mo_node 72 = .ok (.iload_n 1, 1) := by decide +kernel
theorem dd_Mo_node_73 : decode cc_Mo_node 73 = .ok (.if_icmp .ne 17, 3) := by decide +kernel
theorem dd_Mo_node_76 : decode cc_Mo_node 76 = .ok (.aload_n 0, 1) := by decide +kernel
theorem dd_Mo_node_77 : decode cc_Mo_node 77 = .ok (.getfield 22, 3) := by decide +kernel
theorem dd_Mo_node_80 : decode cc_Mo_node 80 = .ok (.iload 4, 2) := by decide +kernel
theorem dd_Mo_node_82 : decode cc_Mo_node 82 = .ok (.baload, 1) := by decide +kernel
theorem dd_Mo_node_83 : decode cc_Mo_node 83 = .ok (.ifCond .ne 7, 3) := by decide +kernel
theorem dd_Mo_node_86 : decode cc_Mo_node 86 = .ok (.iconst 1, 1) := by decide +kernel
theorem dd_Mo_node_87 : decode cc_Mo_node 87 = .ok (.goto 4, 3) := by decide +kernel
theorem dd_Mo_node_90 : decode cc_Mo_node 90 = .ok (.iconst 0, 1) := by decide +kernel
theorem dd_Mo_node_91 : decode cc_Mo_node 91 = .ok (.iadd, 1) := by decide +kernel
theorem dd_Mo_node_92 : decode cc_Mo_node 92 = .ok (.istore_n 3, 1) := by decide +kernel
theorem dd_Mo_node_93 : decode cc_Mo_node 93 = .ok (.iinc 4 1, 3) := by decide +kernel
theorem dd_Mo_node_96 : decode cc_Mo_node 96 = .ok (.goto (-47), 3) := by decide +kernel
theorem dd_Mo_node_99 : decode cc_Mo_node 99 = .ok (.iload_n 2, 1) := by decide +kernel
theorem dd_Mo_node_100 : decode cc_Mo_node 100 = .ok (.iconst 5, 1) := by decide +kernel
theorem dd_Mo_node_101 : decode cc_Mo_node 101 = .ok (.if_icmp .eq 9, 3) := by decide +kernel
theorem dd_Mo_node_104 : decode cc_Mo_node 104 = .ok (.iload_n 2, 1) := by decide +kernel
theorem dd_Mo_node_105 : decode cc_Mo_node 105 = .ok (.bipush 7, 2) := by decide +kernel
theorem dd_Mo_node_107 : decode cc_Mo_node 107 = .ok (.if_icmp .ne 5, 3) := by decide +kernel
theorem dd_Mo_node_110 : decode cc_Mo_node 110 = .ok (.iload_n 3, 1) := by decide +kernel
theorem dd_Mo_node_111 : decode cc_Mo_node 111 = .ok (.ireturn, 1) := by decide +kernel
theorem dd_Mo_node_112 : decode cc_Mo_node 112 = .ok (.iload_n 2, 1) := by decide +kernel
theorem dd_Mo_node_113 : decode cc_Mo_node 113 = .ok (.iconst 4, 1) := by decide +kernel
theorem dd_Mo_node_114 : decode cc_Mo_node 114 = .ok (.if_icmp .ge 60, 3) := by decide +kernel
theorem dd_Mo_node_117 : decode cc_Mo_node 117 = .ok (.iload_n 2, 1) := by decide +kernel
theorem dd_Mo_node_118 : decode cc_Mo_node 118 = .ok (.ifCond .ne 12, 3) := by decide +kernel
theorem dd_Mo_node_121 : decode cc_Mo_node 121 = .ok (.aload_n 0, 1) := by decide +kernel
theorem dd_Mo_node_122 : decode cc_Mo_node 122 = .ok (.getfield 50, 3) := by decide +kernel
theorem dd_Mo_node_125 : decode cc_Mo_node 125 = .ok (.iload_n 1, 1) := by decide +kernel
theorem dd_Mo_node_126 : decode cc_Mo_node 126 = .ok (.iaload, 1) := by decide +kernel
theorem dd_Mo_node_127 : decode cc_Mo_node 127 = .ok (.goto 46, 3) := by decide +kernel
theorem dd_Mo_node_130 : decode cc_Mo_node 130 = .ok (.iload_n 2, 1) := by decide +kernel
theorem dd_Mo_node_131 : decode cc_Mo_node 131 = .ok (.iconst 1, 1) := by decide +kernel
theorem dd_Mo_node_132 : decode cc_Mo_node 132 = .ok (.if_icmp .ne 12, 3) := by decide +kernel
theorem dd_Mo_node_135 : decode cc_Mo_node 135 = .ok (.aload_n 0, 1) := by decide +kernel
theorem dd_Mo_node_136 : decode cc_Mo_node 136 = .ok (.getfield 59, 3) := by decide +kernel
theorem dd_Mo_node_139 : decode cc_Mo_node 139 = .ok (.iload_n 1, 1) := by decide +kernel
theorem dd_Mo_node_140 : decode cc_Mo_node 140 = .ok (.iaload, 1) := by decide +kernel
theorem dd_Mo_node_141 : decode cc_Mo_node 141 = .ok (.goto 32, 3) := by decide +kernel
theorem dd_Mo_node_144 : decode cc_Mo_node 144 = .ok (.iload_n 2, 1) := by decide +kernel
theorem dd_Mo_node_145 : decode cc_Mo_node 145 = .ok (.iconst 2, 1) := by decide +kernel
theorem dd_Mo_node_146 : decode cc_Mo_node 146 = .ok (.if_icmp .ne 12, 3) := by decide +kernel
theorem dd_Mo_node_149 : decode cc_Mo_node 149 = .ok (.aload_n 0, 1) := by decide +kernel
theorem dd_Mo_node_150 : decode cc_Mo_node 150 = .ok (.getfield 68, 3) := by decide +kernel
theorem dd_Mo_node_153 : decode cc_Mo_node 153 = .ok (.iload_n 1, 1) := by decide +kernel
theorem dd_Mo_node_154 : decode cc_Mo_node 154 = .ok (.iaload, 1) := by decide +kernel
theorem dd_Mo_node_155 : decode cc_Mo_node 155 = .ok (.goto 18, 3) := by decide +kernel
theorem dd_Mo_node_158 : decode cc_Mo_node 158 = .ok (.iload_n 2, 1) := by decide +kernel
theorem dd_Mo_node_159 : decode cc_Mo_node 159 = .ok (.iconst 3, 1) := by decide +kernel
theorem dd_Mo_node_160 : decode cc_Mo_node 160 = .ok (.if_icmp .ne 12, 3) := by decide +kernel
theorem dd_Mo_node_163 : decode cc_Mo_node 163 = .ok (.aload_n 0, 1) := by decide +kernel
theorem dd_Mo_node_164 : decode cc_Mo_node 164 = .ok (.getfield 71, 3) := by decide +kernel
theorem dd_Mo_node_167 : decode cc_Mo_node 167 = .ok (.iload_n 1, 1) := by decide +kernel
theorem dd_Mo_node_168 : decode cc_Mo_node 168 = .ok (.iaload, 1) := by decide +kernel
theorem dd_Mo_node_169 : decode cc_Mo_node 169 = .ok (.goto 4, 3) := by decide +kernel
theorem dd_Mo_node_172 : decode cc_Mo_node 172 = .ok (.iconst (-1), 1) := by decide +kernel
theorem dd_Mo_node_173 : decode cc_Mo_node 173 = .ok (.ireturn, 1) := by decide +kernel
theorem dd_Mo_node_174 : decode cc_Mo_node 174 = .ok (.iload_n 2, 1) := by decide +kernel
theorem dd_Mo_node_175 : decode cc_Mo_node 175 = .ok (.iconst 4, 1) := by decide +kernel
theorem dd_Mo_node_176 : decode cc_Mo_node 176 = .ok (.if_icmp .ne 12, 3) := by decide +kernel
theorem dd_Mo_node_179 : decode cc_Mo_node 179 = .ok (.aload_n 0, 1) := by decide +kernel
theorem dd_Mo_node_180 : decode cc_Mo_node 180 = .ok (.getfield 74, 3) := by decide +kernel
theorem dd_Mo_node_183 : decode cc_Mo_node 183 = .ok (.iload_n 1, 1) := by decide +kernel
theorem dd_Mo_node_184 : decode cc_Mo_node 184 = .ok (.iaload, 1) := by decide +kernel
theorem dd_Mo_node_185 : decode cc_Mo_node 185 = .ok (.goto 34, 3) := by decide +kernel
theorem dd_Mo_node_188 : decode cc_Mo_node 188 = .ok (.iload_n 2, 1) := by decide +kernel
theorem dd_Mo_node_189 : decode cc_Mo_node 189 = .ok (.bipush 6, 2) := by decide +kernel
theorem dd_Mo_node_191 : decode cc_Mo_node 191 = .ok (.if_icmp .ne 12, 3) := by decide +kernel
theorem dd_Mo_node_194 : decode cc_Mo_node 194 = .ok (.aload_n 0, 1) := by decide +kernel
theorem dd_Mo_node_195 : decode cc_Mo_node 195 = .ok (.getfield 92, 3) := by decide +kernel
theorem dd_Mo_node_198 : decode cc_Mo_node 198 = .ok (.iload_n 1, 1) := by decide +kernel
theorem dd_Mo_node_199 : decode cc_Mo_node 199 = .ok (.iaload, 1) := by decide +kernel
theorem dd_Mo_node_200 : decode cc_Mo_node 200 = .ok (.goto 19, 3) := by decide +kernel
theorem dd_Mo_node_203 : decode cc_Mo_node 203 = .ok (.iload_n 2, 1) := by decide +kernel
theorem dd_Mo_node_204 : decode cc_Mo_node 204 = .ok (.bipush 8, 2) := by decide +kernel
theorem dd_Mo_node_206 : decode cc_Mo_node 206 = .ok (.if_icmp .ne 12, 3) := by decide +kernel
theorem dd_Mo_node_209 : decode cc_Mo_node 209 = .ok (.aload_n 0, 1) := by decide +kernel
theorem dd_Mo_node_210 : decode cc_Mo_node 210 = .ok (.getfield 53, 3) := by decide +kernel
theorem dd_Mo_node_213 : decode cc_Mo_node 213 = .ok (.iload_n 1, 1) := by decide +kernel
theorem dd_Mo_node_214 : decode cc_Mo_node 214 = .ok (.iaload, 1) := by decide +kernel
theorem dd_Mo_node_215 : decode cc_Mo_node 215 = .ok (.goto 4, 3) := by decide +kernel
theorem dd_Mo_node_218 : decode cc_Mo_node 218 = .ok (.iconst (-1), 1) := by decide +kernel
theorem dd_Mo_node_219 : decode cc_Mo_node 219 = .ok (.ireturn, 1) := by decide +kernel
theorem dd_Mo_dag_0 : decode cc_Mo_dag 0 = .ok (.aload_n 0, 1) := by decide +kernel
theorem dd_Mo_dag_1 : decode cc_Mo_dag 1 = .ok (.iload_n 1, 1) := by decide +kernel
theorem dd_Mo_dag_2 : decode cc_Mo_dag 2 = .ok (.invokevirtual 190, 3) := by decide +kernel
theorem dd_Mo_dag_5 : decode cc_Mo_dag 5 = .ok (.ifCond .eq 22, 3) := by decide +kernel
theorem dd_Mo_dag_8 : decode cc_Mo_dag 8 = .ok (.iload_n 2, 1) := by decide +kernel
theorem dd_Mo_dag_9 : decode cc_Mo_dag 9 = .ok (.iconst 0, 1) := by decide +kernel
theorem dd_Mo_dag_10 : decode cc_Mo_dag 10 = .ok (.iconst 3, 1) := by decide +kernel
theorem dd_Mo_dag_11 : decode cc_Mo_dag 11 = .ok (.invokestatic 186, 3) := by decide +kernel
theorem dd_Mo_dag_14 : decode cc_Mo_dag 14 = .ok (.ifCond .eq 13, 3) := by decide +kernel
theorem dd_Mo_dag_17 : decode cc_Mo_dag 17 = .ok (.iload_n 3, 1) := by decide +kernel
theorem dd_Mo_dag_18 : decode cc_Mo_dag 18 = .ok (.iconst 1, 1) := by decide +kernel
theorem dd_Mo_dag_19 : decode cc_Mo_dag 19 = .ok (.bipush 14, 2) := by decide +kernel
theorem dd_Mo_dag_21 : decode cc_Mo_dag 21 = .ok (.invokestatic 186, 3) := by decide +kernel
theorem dd_Mo_dag_24 : decode cc_Mo_dag 24 = .ok (.ifCond .ne 7, 3) := by decide +kernel
theorem dd_Mo_dag_27 : decode cc_Mo_dag 27 = .ok (.iconst (-1), 1) := by decide +kernel
theorem dd_Mo_dag_28 : decode cc_Mo_dag 28 = .ok (.goto 20, 3) := by decide +kernel
theorem dd_Mo_dag_31 : decode cc_Mo_dag 31 = .ok (.aload_n 0, 1) := by decide +kernel
theorem dd_Mo_dag_32 : decode cc_Mo_dag 32 = .ok (.getfield 77, 3) := by decide +kernel
theorem dd_Mo_dag_35 : decode cc_Mo_dag 35 = .ok (.bipush 60, 2) := by decide +kernel
theorem dd_Mo_dag_37 : decode cc_Mo_dag 37 = .ok (.iload_n 1, 1) := by decide +kernel
theorem dd_Mo_dag_38 : decode cc_Mo_dag 38 = .ok (.imul, 1) := by decide +kernel
theorem dd_Mo_dag_39 : decode cc_Mo_dag 39 = .ok (.iconst 4, 1) := by decide +kernel
theorem dd_Mo_dag_40 : decode cc_Mo_dag 40 = .ok (.iload_n 3, 1) := by decide +kernel
theorem dd_Mo_dag_41 : decode cc_Mo_dag 41 = .ok (.imul, 1) := by decide +kernel
theorem dd_Mo_dag_42 : decode cc_Mo_dag 42 = .ok (.iadd, 1) := by decide +kernel
theorem dd_Mo_dag_43 : decode cc_Mo_dag 43 = .ok (.iload_n 2, 1) := by decide +kernel
theorem dd_Mo_dag_44 : decode cc_Mo_dag 44 = .ok (.iadd, 1) := by decide +kernel
theorem dd_Mo_dag_45 : decode cc_Mo_dag 45 = .ok (.iaload, 1) := by decide +kernel
theorem dd_Mo_dag_46 : decode cc_Mo_dag 46 = .ok (.iconst 1, 1) := by decide +kernel
theorem dd_Mo_dag_47 : decode cc_Mo_dag 47 = .ok (.isub, 1) := by decide +kernel
theorem dd_Mo_dag_48 : decode cc_Mo_dag 48 = .ok (.ireturn, 1) := by decide +kernel
theorem dd_Mo_at_0 : decode cc_Mo_at 0 = .ok (.aload_n 0, 1) := by decide +kernel
theorem dd_Mo_at_1 : decode cc_Mo_at 1 = .ok (.iload_n 1, 1) := by decide +kernel
theorem dd_Mo_at_2 : decode cc_Mo_at 2 = .ok (.invokevirtual 190, 3) := by decide +kernel
theorem dd_Mo_at_5 : decode cc_Mo_at 5 = .ok (.ifCond .eq 17, 3) := by decide +kernel
theorem dd_Mo_at_8 : decode cc_Mo_at 8 = .ok (.iload_n 2, 1) := by decide +kernel
theorem dd_Mo_at_9 : decode cc_Mo_at 9 = .ok (.ifCond .lt 13, 3) := by decide +kernel
theorem dd_Mo_at_12 : decode cc_Mo_at 12 = .ok (.iload_n 2, 1) := by decide +kernel
theorem dd_Mo_at_13 : decode cc_Mo_at 13 = .ok (.aload_n 0, 1) := by decide +kernel
theorem dd_Mo_at_14 : decode cc_Mo_at 14 = .ok (.getfield 92, 3) := by decide +kernel
theorem dd_Mo_at_17 : decode cc_Mo_at 17 = .ok (.iload_n 1, 1) := by decide +kernel
theorem dd_Mo_at_18 : decode cc_Mo_at 18 = .ok (.iaload, 1) := by decide +kernel
theorem dd_Mo_at_19 : decode cc_Mo_at 19 = .ok (.if_icmp .lt 7, 3) := by decide +kernel
theorem dd_Mo_at_22 : decode cc_Mo_at 22 = .ok (.iconst (-1), 1) := by decide +kernel
theorem dd_Mo_at_23 : decode cc_Mo_at 23 = .ok (.goto 14, 3) := by decide +kernel
theorem dd_Mo_at_26 : decode cc_Mo_at 26 = .ok (.aload_n 0, 1) := by decide +kernel
theorem dd_Mo_at_27 : decode cc_Mo_at 27 = .ok (.getfield 89, 3) := by decide +kernel
theorem dd_Mo_at_30 : decode cc_Mo_at 30 = .ok (.bipush 40, 2) := by decide +kernel
theorem dd_Mo_at_32 : decode cc_Mo_at 32 = .ok (.iload_n 1, 1) := by decide +kernel
theorem dd_Mo_at_33 : decode cc_Mo_at 33 = .ok (.imul, 1) := by decide +kernel
theorem dd_Mo_at_34 : decode cc_Mo_at 34 = .ok (.iload_n 2, 1) := by decide +kernel
theorem dd_Mo_at_35 : decode cc_Mo_at 35 = .ok (.iadd, 1) := by decide +kernel
theorem dd_Mo_at_36 : decode cc_Mo_at 36 = .ok (.iaload, 1) := by decide +kernel
theorem dd_Mo_at_37 : decode cc_Mo_at 37 = .ok (.ireturn, 1) := by decide +kernel
theorem dd_Mo_balance_0 : decode cc_Mo_balance 0 = .ok (.aload_n 0, 1) := by decide +kernel
theorem dd_Mo_balance_1 : decode cc_Mo_balance 1 = .ok (.iload_n 1, 1) := by decide +kernel
theorem dd_Mo_balance_2 : decode cc_Mo_balance 2 = .ok (.invokevirtual 190, 3) := by decide +kernel
theorem dd_Mo_balance_5 : decode cc_Mo_balance 5 = .ok (.ifCond .eq 12, 3) := by decide +kernel
theorem dd_Mo_balance_8 : decode cc_Mo_balance 8 = .ok (.iload_n 2, 1) := by decide +kernel
theorem dd_Mo_balance_9 : decode cc_Mo_balance 9 = .ok (.iconst 0, 1) := by decide +kernel
theorem dd_Mo_balance_10 : decode cc_Mo_balance 10 = .ok (.iconst 3, 1) := by decide +kernel
theorem dd_Mo_balance_11 : decode cc_Mo_balance 11 = .ok (.invokestatic 186, 3) := by decide +kernel
theorem dd_Mo_balance_14 : decode cc_Mo_balance 14 = .ok (.ifCond .ne 5, 3) := by decide +kernel
theorem dd_Mo_balance_17 : decode cc_Mo_balance 17 = .ok (.iconst (-1), 1) := by decide +kernel
theorem dd_Mo_balance_18 : decode cc_Mo_balance 18 = .ok (.ireturn, 1) := by decide +kernel
theorem dd_Mo_balance_19 : decode cc_Mo_balance 19 = .ok (.aload_n 0, 1) := by decide +kernel
theorem dd_Mo_balance_20 : decode cc_Mo_balance 20 = .ok (.getfield 50, 3) := by decide +kernel
theorem dd_Mo_balance_23 : decode cc_Mo_balance 23 = .ok (.iload_n 1, 1) := by decide +kernel
theorem dd_Mo_balance_24 : decode cc_Mo_balance 24 = .ok (.iaload, 1) := by decide +kernel
theorem dd_Mo_balance_25 : decode cc_Mo_balance 25 = .ok (.ifCond .eq 20, 3) := by decide +kernel
theorem dd_Mo_balance_28 : decode cc_Mo_balance 28 = .ok (.aload_n 0, 1) := by decide +kernel
theorem dd_Mo_balance_29 : decode cc_Mo_balance 29 = .ok (.getfield 50, 3) := by decide +kernel
theorem dd_Mo_balance_32 : decode cc_Mo_balance 32 = .ok (.iload_n 1, 1) := by decide +kernel
theorem dd_Mo_balance_33 : decode cc_Mo_balance 33 = .ok (.iaload, 1) := by decide +kernel
theorem dd_Mo_balance_34 : decode cc_Mo_balance 34 = .ok (.iconst 2, 1) := by decide +kernel
theorem dd_Mo_balance_35 : decode cc_Mo_balance 35 = .ok (.if_icmp .ne 14, 3) := by decide +kernel
theorem dd_Mo_balance_38 : decode cc_Mo_balance 38 = .ok (.aload_n 0, 1) := by decide +kernel
theorem dd_Mo_balance_39 : decode cc_Mo_balance 39 = .ok (.getfield 207, 3) := by decide +kernel
theorem dd_Mo_balance_42 : decode cc_Mo_balance 42 = .ok (.ifCond .eq 7, 3) := by decide +kernel
theorem dd_Mo_balance_45 : decode cc_Mo_balance 45 = .ok (.iconst 0, 1) := by decide +kernel
theorem dd_Mo_balance_46 : decode cc_Mo_balance 46 = .ok (.goto 13, 3) := by decide +kernel
theorem dd_Mo_balance_49 : decode cc_Mo_balance 49 = .ok (.aload_n 0, 1) := by decide +kernel
theorem dd_Mo_balance_50 : decode cc_Mo_balance 50 = .ok (.getfield 95, 3) := by decide +kernel
theorem dd_Mo_balance_53 : decode cc_Mo_balance 53 = .ok (.iconst 4, 1) := by decide +kernel
theorem dd_Mo_balance_54 : decode cc_Mo_balance 54 = .ok (.iload_n 1, 1) := by decide +kernel
theorem dd_Mo_balance_55 : decode cc_Mo_balance 55 = .ok (.imul, 1) := by decide +kernel
theorem dd_Mo_balance_56 : decode cc_Mo_balance 56 = .ok (.iload_n 2, 1) := by decide +kernel
theorem dd_Mo_balance_57 : decode cc_Mo_balance 57 = .ok (.iadd, 1) := by decide +kernel
theorem dd_Mo_balance_58 : decode cc_Mo_balance 58 = .ok (.iaload, 1) := by decide +kernel
theorem dd_Mo_balance_59 : decode cc_Mo_balance 59 = .ok (.ireturn, 1) := by decide +kernel
