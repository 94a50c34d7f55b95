theorem d_Md_serve_0 : decode b_Md_serve 0 = .ok (.aload_n 0, 1) := by decide +kernel
theorem d_Md_serve_1 : decode b_Md_serve 1 = .ok (.invokevirtual 185, 3) := by decide +kernel
theorem d_Md_serve_4 : decode b_Md_serve 4 = .ok (.ifCond .eq (12), 3) := by decide +kernel
theorem d_Md_serve_7 : decode b_Md_serve 7 = .ok (.aload_n 0, 1) := by decide +kernel
theorem d_Md_serve_8 : decode b_Md_serve 8 = .ok (.getfield 87, 3) := by decide +kernel
theorem d_Md_serve_11 : decode b_Md_serve 11 = .ok (.bipush 12, 2) := by decide +kernel
theorem d_Md_serve_13 : decode b_Md_serve 13 = .ok (.if_icmp .ge (6), 3) := by decide +kernel
theorem d_Md_serve_16 : decode b_Md_serve 16 = .ok (.bipush (-2), 2) := by decide +kernel
theorem d_Md_serve_18 : decode b_Md_serve 18 = .ok (.ireturn, 1) := by decide +kernel
theorem d_Md_serve_19 : decode b_Md_serve 19 = .ok (.aload_n 0, 1) := by decide +kernel
theorem d_Md_serve_20 : decode b_Md_serve 20 = .ok (.iconst 4, 1) := by decide +kernel
theorem d_Md_serve_21 : decode b_Md_serve 21 = .ok (.invokevirtual 160, 3) := by decide +kernel
theorem d_Md_serve_24 : decode b_Md_serve 24 = .ok (.ifCond .eq (6), 3) := by decide +kernel
theorem d_Md_serve_27 : decode b_Md_serve 27 = .ok (.bipush (-3), 2) := by decide +kernel
theorem d_Md_serve_29 : decode b_Md_serve 29 = .ok (.ireturn, 1) := by decide +kernel
theorem d_Md_serve_30 : decode b_Md_serve 30 = .ok (.aload_n 0, 1) := by decide +kernel
theorem d_Md_serve_31 : decode b_Md_serve 31 = .ok (.iconst 0, 1) := by decide +kernel
theorem d_Md_serve_32 : decode b_Md_serve 32 = .ok (.invokevirtual 160, 3) := by decide +kernel
theorem d_Md_serve_35 : decode b_Md_serve 35 = .ok (.istore_n 1, 1) := by decide +kernel
theorem d_Md_serve_36 : decode b_Md_serve 36 = .ok (.iconst 0, 1) := by decide +kernel
theorem d_Md_serve_37 : decode b_Md_serve 37 = .ok (.istore_n 2, 1) := by decide +kernel
theorem d_Md_serve_38 : decode b_Md_serve 38 = .ok (.iload_n 2, 1) := by decide +kernel
theorem d_Md_serve_39 : decode b_Md_serve 39 = .ok (.aload_n 0, 1) := by decide +kernel
theorem d_Md_serve_40 : decode b_Md_serve 40 = .ok (.getfield 182, 3) := by decide +kernel
theorem d_Md_serve_43 : decode b_Md_serve 43 = .ok (.if_icmp .ge (38), 3) := by decide +kernel
theorem d_Md_serve_46 : decode b_Md_serve 46 = .ok (.aload_n 0, 1) := by decide +kernel
theorem d_Md_serve_47 : decode b_Md_serve 47 = .ok (.getfield 44, 3) := by decide +kernel
theorem d_Md_serve_50 : decode b_Md_serve 50 = .ok (.iload_n 2, 1) := by decide +kernel
theorem d_Md_serve_51 : decode b_Md_serve 51 = .ok (.iaload, 1) := by decide +kernel
theorem d_Md_serve_52 : decode b_Md_serve 52 = .ok (.iload_n 1, 1) := by decide +kernel
theorem d_Md_serve_53 : decode b_Md_serve 53 = .ok (.if_icmp .ne (22), 3) := by decide +kernel
theorem d_Md_serve_56 : decode b_Md_serve 56 = .ok (.aload_n 0, 1) := by decide +kernel
theorem d_Md_serve_57 : decode b_Md_serve 57 = .ok (.iload_n 1, 1) := by decide +kernel
theorem d_Md_serve_58 : decode b_Md_serve 58 = .ok (.aload_n 0, 1) := by decide +kernel
theorem d_Md_serve_59 : decode b_Md_serve 59 = .ok (.getfield 47, 3) := by decide +kernel
theorem d_Md_serve_62 : decode b_Md_serve 62 = .ok (.iload_n 2, 1) := by decide +kernel
theorem d_Md_serve_63 : decode b_Md_serve 63 = .ok (.iaload, 1) := by decide +kernel
theorem d_Md_serve_64 : decode b_Md_serve 64 = .ok (.aload_n 0, 1) := by decide +kernel
theorem d_Md_serve_65 : decode b_Md_serve 65 = .ok (.getfield 50, 3) := by decide +kernel
theorem d_Md_serve_68 : decode b_Md_serve 68 = .ok (.iload_n 2, 1) := by decide +kernel
theorem d_Md_serve_69 : decode b_Md_serve 69 = .ok (.iaload, 1) := by decide +kernel
theorem d_Md_serve_70 : decode b_Md_serve 70 = .ok (.invokevirtual 188, 3) := by decide +kernel
theorem d_Md_serve_73 : decode b_Md_serve 73 = .ok (.iconst 1, 1) := by decide +kernel
theorem d_Md_serve_74 : decode b_Md_serve 74 = .ok (.ireturn, 1) := by decide +kernel
theorem d_Md_serve_75 : decode b_Md_serve 75 = .ok (.iinc 2 (1), 3) := by decide +kernel
theorem d_Md_serve_78 : decode b_Md_serve 78 = .ok (.goto (-40), 3) := by decide +kernel
theorem d_Md_serve_81 : decode b_Md_serve 81 = .ok (.aload_n 0, 1) := by decide +kernel
theorem d_Md_serve_82 : decode b_Md_serve 82 = .ok (.bipush 8, 2) := by decide +kernel
theorem d_Md_serve_84 : decode b_Md_serve 84 = .ok (.invokevirtual 160, 3) := by decide +kernel
theorem d_Md_serve_87 : decode b_Md_serve 87 = .ok (.istore_n 2, 1) := by decide +kernel
theorem d_Md_serve_88 : decode b_Md_serve 88 = .ok (.iload_n 2, 1) := by decide +kernel
theorem d_Md_serve_89 : decode b_Md_serve 89 = .ok (.ifCond .lt (8), 3) := by decide +kernel
theorem d_Md_serve_92 : decode b_Md_serve 92 = .ok (.iload_n 2, 1) := by decide +kernel
theorem d_Md_serve_93 : decode b_Md_serve 93 = .ok (.iconst 3, 1) := by decide +kernel
theorem d_Md_serve_94 : decode b_Md_serve 94 = .ok (.if_icmp .le (7), 3) := by decide +kernel
theorem d_Md_serve_97 : decode b_Md_serve 97 = .ok (.iconst 1, 1) := by decide +kernel
theorem d_Md_serve_98 : decode b_Md_serve 98 = .ok (.goto (15), 3) := by decide +kernel
theorem d_Md_serve_101 : decode b_Md_serve 101 = .ok (.aload_n 0, 1) := by decide +kernel
theorem d_Md_serve_102 : decode b_Md_serve 102 = .ok (.invokevirtual 192, 3) := by decide +kernel
theorem d_Md_serve_105 : decode b_Md_serve 105 = .ok (.ifCond .eq (7), 3) := by decide +kernel
theorem d_Md_serve_108 : decode b_Md_serve 108 = .ok (.iconst 0, 1) := by decide +kernel
theorem d_Md_serve_109 : decode b_Md_serve 109 = .ok (.goto (4), 3) := by decide +kernel
theorem d_Md_serve_112 : decode b_Md_serve 112 = .ok (.iconst 2, 1) := by decide +kernel
theorem d_Md_serve_113 : decode b_Md_serve 113 = .ok (.istore_n 3, 1) := by decide +kernel
theorem d_Md_serve_114 : decode b_Md_serve 114 = .ok (.iload_n 3, 1) := by decide +kernel
theorem d_Md_serve_115 : decode b_Md_serve 115 = .ok (.ifCond .ne (11), 3) := by decide +kernel
theorem d_Md_serve_118 : decode b_Md_serve 118 = .ok (.aload_n 0, 1) := by decide +kernel
theorem d_Md_serve_119 : decode b_Md_serve 119 = .ok (.iload_n 2, 1) := by decide +kernel
theorem d_Md_serve_120 : decode b_Md_serve 120 = .ok (.invokevirtual 195, 3) := by decide +kernel
theorem d_Md_serve_123 : decode b_Md_serve 123 = .ok (.goto (4), 3) := by decide +kernel
theorem d_Md_serve_126 : decode b_Md_serve 126 = .ok (.iconst 0, 1) := by decide +kernel
theorem d_Md_serve_127 : decode b_Md_serve 127 = .ok (.istore 4, 2) := by decide +kernel
theorem d_Md_serve_129 : decode b_Md_serve 129 = .ok (.aload_n 0, 1) := by decide +kernel
theorem d_Md_serve_130 : decode b_Md_serve 130 = .ok (.iload_n 1, 1) := by decide +kernel
theorem d_Md_serve_131 : decode b_Md_serve 131 = .ok (.iload_n 3, 1) := by decide +kernel
theorem d_Md_serve_132 : decode b_Md_serve 132 = .ok (.iload 4, 2) := by decide +kernel
theorem d_Md_serve_134 : decode b_Md_serve 134 = .ok (.invokevirtual 198, 3) := by decide +kernel
theorem d_Md_serve_137 : decode b_Md_serve 137 = .ok (.aload_n 0, 1) := by decide +kernel
theorem d_Md_serve_138 : decode b_Md_serve 138 = .ok (.iload_n 1, 1) := by decide +kernel
theorem d_Md_serve_139 : decode b_Md_serve 139 = .ok (.iload_n 3, 1) := by decide +kernel
theorem d_Md_serve_140 : decode b_Md_serve 140 = .ok (.iload 4, 2) := by decide +kernel
theorem d_Md_serve_142 : decode b_Md_serve 142 = .ok (.invokevirtual 188, 3) := by decide +kernel
theorem d_Md_serve_145 : decode b_Md_serve 145 = .ok (.iload_n 3, 1) := by decide +kernel
theorem d_Md_serve_146 : decode b_Md_serve 146 = .ok (.ifCond .ne (7), 3) := by decide +kernel
theorem d_Md_serve_149 : decode b_Md_serve 149 = .ok (.iconst 0, 1) := by decide +kernel
theorem d_Md_serve_150 : decode b_Md_serve 150 = .ok (.goto (13), 3) := by decide +kernel
theorem d_Md_serve_153 : decode b_Md_serve 153 = .ok (.iload_n 3, 1) := by decide +kernel
theorem d_Md_serve_154 : decode b_Md_serve 154 = .ok (.iconst 1, 1) := by decide +kernel
theorem d_Md_serve_155 : decode b_Md_serve 155 = .ok (.if_icmp .ne (7), 3) := by decide +kernel
theorem d_Md_serve_158 : decode b_Md_serve 158 = .ok (.iconst 2, 1) := by decide +kernel
theorem d_Md_serve_159 : decode b_Md_serve 159 = .ok (.goto (4), 3) := by decide +kernel
theorem d_Md_serve_162 : decode b_Md_serve 162 = .ok (.iconst 3, 1) := by decide +kernel
theorem d_Md_serve_163 : decode b_Md_serve 163 = .ok (.ireturn, 1) := by decide +kernel
theorem d_Md_accept_0 : decode b_Md_accept 0 = .ok (.aload_n 0, 1) := by decide +kernel
theorem d_Md_accept_1 : decode b_Md_accept 1 = .ok (.invokevirtual 185, 3) := by decide +kernel
theorem d_Md_accept_4 : decode b_Md_accept 4 = .ok (.ifCond .eq (12), 3) := by decide +kernel
theorem d_Md_accept_7 : decode b_Md_accept 7 = .ok (.aload_n 0, 1) := by decide +kernel
theorem d_Md_accept_8 : decode b_Md_accept 8 = .ok (.getfield 87, 3) := by decide +kernel
theorem d_Md_accept_11 : decode b_Md_accept 11 = .ok (.bipush 12, 2) := by decide +kernel
theorem d_Md_accept_13 : decode b_Md_accept 13 = .ok (.if_icmp .ge (6), 3) := by decide +kernel
theorem d_Md_accept_16 : decode b_Md_accept 16 = .ok (.bipush (-2), 2) := by decide +kernel
theorem d_Md_accept_18 : decode b_Md_accept 18 = .ok (.ireturn, 1) := by decide +kernel
theorem d_Md_accept_19 : decode b_Md_accept 19 = .ok (.aload_n 0, 1) := by decide +kernel
theorem d_Md_accept_20 : decode b_Md_accept 20 = .ok (.iconst 4, 1) := by decide +kernel
theorem d_Md_accept_21 : decode b_Md_accept 21 = .ok (.invokevirtual 160, 3) := by decide +kernel
theorem d_Md_accept_24 : decode b_Md_accept 24 = .ok (.iconst 1, 1) := by decide +kernel
theorem d_Md_accept_25 : decode b_Md_accept 25 = .ok (.if_icmp .eq (6), 3) := by decide +kernel
theorem d_Md_accept_28 : decode b_Md_accept 28 = .ok (.bipush (-3), 2) := by decide +kernel
theorem d_Md_accept_30 : decode b_Md_accept 30 = .ok (.ireturn, 1) := by decide +kernel
theorem d_Md_accept_31 : decode b_Md_accept 31 = .ok (.aload_n 0, 1) := by decide +kernel
theorem d_Md_accept_32 : decode b_Md_accept 32 = .ok (.bipush 8, 2) := by decide +kernel
theorem d_Md_accept_34 : decode b_Md_accept 34 = .ok (.invokevirtual 160, 3) := by decide +kernel
theorem d_Md_accept_37 : decode b_Md_accept 37 = .ok (.istore_n 1, 1) := by decide +kernel
theorem d_Md_accept_38 : decode b_Md_accept 38 = .ok (.iload_n 1, 1) := by decide +kernel
theorem d_Md_accept_39 : decode b_Md_accept 39 = .ok (.ifCond .lt (26), 3) := by decide +kernel
theorem d_Md_accept_42 : decode b_Md_accept 42 = .ok (.iload_n 1, 1) := by decide +kernel
theorem d_Md_accept_43 : decode b_Md_accept 43 = .ok (.iconst 2, 1) := by decide +kernel
theorem d_Md_accept_44 : decode b_Md_accept 44 = .ok (.if_icmp .gt (21), 3) := by decide +kernel
theorem d_Md_accept_47 : decode b_Md_accept 47 = .ok (.aload_n 0, 1) := by decide +kernel
theorem d_Md_accept_48 : decode b_Md_accept 48 = .ok (.getfield 87, 3) := by decide +kernel
theorem d_Md_accept_51 : decode b_Md_accept 51 = .ok (.iload_n 1, 1) := by decide +kernel
theorem d_Md_accept_52 : decode b_Md_accept 52 = .ok (.ifCond .ne (8), 3) := by decide +kernel
theorem d_Md_accept_55 : decode b_Md_accept 55 = .ok (.bipush 16, 2) := by decide +kernel
theorem d_Md_accept_57 : decode b_Md_accept 57 = .ok (.goto (5), 3) := by decide +kernel
theorem d_Md_accept_60 : decode b_Md_accept 60 = .ok (.bipush 12, 2) := by decide +kernel
theorem d_Md_accept_62 : decode b_Md_accept 62 = .ok (.if_icmp .eq (6), 3) := by decide +kernel
theorem d_Md_accept_65 : decode b_Md_accept 65 = .ok (.bipush (-2), 2) := by decide +kernel
theorem d_Md_accept_67 : decode b_Md_accept 67 = .ok (.ireturn, 1) := by decide +kernel
theorem d_Md_accept_68 : decode b_Md_accept 68 = .ok (.aload_n 0, 1) := by decide +kernel
theorem d_Md_accept_69 : decode b_Md_accept 69 = .ok (.iconst 0, 1) := by decide +kernel
theorem d_Md_accept_70 : decode b_Md_accept 70 = .ok (.invokevirtual 160, 3) := by decide +kernel
theorem d_Md_accept_73 : decode b_Md_accept 73 = .ok (.istore_n 2, 1) := by decide +kernel
theorem d_Md_accept_74 : decode b_Md_accept 74 = .ok (.iload_n 2, 1) := by decide +kernel
theorem d_Md_accept_75 : decode b_Md_accept 75 = .ok (.ifCond .lt (21), 3) := by decide +kernel
theorem d_Md_accept_78 : decode b_Md_accept 78 = .ok (.iload_n 2, 1) := by decide +kernel
theorem d_Md_accept_79 : decode b_Md_accept 79 = .ok (.aload_n 0, 1) := by decide +kernel
theorem d_Md_accept_80 : decode b_Md_accept 80 = .ok (.getfield 201, 3) := by decide +kernel
theorem d_Md_accept_83 : decode b_Md_accept 83 = .ok (.if_icmp .ge (13), 3) := by decide +kernel
theorem d_Md_accept_86 : decode b_Md_accept 86 = .ok (.aload_n 0, 1) := by decide +kernel
theorem d_Md_accept_87 : decode b_Md_accept 87 = .ok (.getfield 53, 3) := by decide +kernel
theorem d_Md_accept_90 : decode b_Md_accept 90 = .ok (.iload_n 2, 1) := by decide +kernel
theorem d_Md_accept_91 : decode b_Md_accept 91 = .ok (.iaload, 1) := by decide +kernel
theorem d_Md_accept_92 : decode b_Md_accept 92 = .ok (.iconst 3, 1) := by decide +kernel
theorem d_Md_accept_93 : decode b_Md_accept 93 = .ok (.if_icmp .eq (5), 3) := by decide +kernel
theorem d_Md_accept_96 : decode b_Md_accept 96 = .ok (.iconst 5, 1) := by decide +kernel
theorem d_Md_accept_97 : decode b_Md_accept 97 = .ok (.ireturn, 1) := by decide +kernel
theorem d_Md_accept_98 : decode b_Md_accept 98 = .ok (.aload_n 0, 1) := by decide +kernel
theorem d_Md_accept_99 : decode b_Md_accept 99 = .ok (.getfield 53, 3) := by decide +kernel
theorem d_Md_accept_102 : decode b_Md_accept 102 = .ok (.iload_n 2, 1) := by decide +kernel
theorem d_Md_accept_103 : decode b_Md_accept 103 = .ok (.iload_n 1, 1) := by decide +kernel
theorem d_Md_accept_104 : decode b_Md_accept 104 = .ok (.iastore, 1) := by decide +kernel
theorem d_Md_accept_105 : decode b_Md_accept 105 = .ok (.aload_n 0, 1) := by decide +kernel
theorem d_Md_accept_106 : decode b_Md_accept 106 = .ok (.getfield 56, 3) := by decide +kernel
theorem d_Md_accept_109 : decode b_Md_accept 109 = .ok (.iload_n 2, 1) := by decide +kernel
theorem d_Md_accept_110 : decode b_Md_accept 110 = .ok (.iload_n 1, 1) := by decide +kernel
theorem d_Md_accept_111 : decode b_Md_accept 111 = .ok (.ifCond .ne (12), 3) := by decide +kernel
theorem d_Md_accept_114 : decode b_Md_accept 114 = .ok (.aload_n 0, 1) := by decide +kernel
theorem d_Md_accept_115 : decode b_Md_accept 115 = .ok (.bipush 12, 2) := by decide +kernel
theorem d_Md_accept_117 : decode b_Md_accept 117 = .ok (.invokevirtual 160, 3) := by decide +kernel
theorem d_Md_accept_120 : decode b_Md_accept 120 = .ok (.goto (4), 3) := by decide +kernel
theorem d_Md_accept_123 : decode b_Md_accept 123 = .ok (.iconst 0, 1) := by decide +kernel
theorem d_Md_accept_124 : decode b_Md_accept 124 = .ok (.iastore, 1) := by decide +kernel
theorem d_Md_accept_125 : decode b_Md_accept 125 = .ok (.iconst 0, 1) := by decide +kernel
theorem d_Md_accept_126 : decode b_Md_accept 126 = .ok (.istore_n 3, 1) := by decide +kernel
theorem d_Md_accept_127 : decode b_Md_accept 127 = .ok (.iload_n 3, 1) := by decide +kernel
theorem d_Md_accept_128 : decode b_Md_accept 128 = .ok (.bipush 8, 2) := by decide +kernel
theorem d_Md_accept_130 : decode b_Md_accept 130 = .ok (.if_icmp .ge (35), 3) := by decide +kernel
theorem d_Md_accept_133 : decode b_Md_accept 133 = .ok (.aload_n 0, 1) := by decide +kernel
theorem d_Md_accept_134 : decode b_Md_accept 134 = .ok (.getfield 68, 3) := by decide +kernel
theorem d_Md_accept_137 : decode b_Md_accept 137 = .ok (.iload_n 3, 1) := by decide +kernel
theorem d_Md_accept_138 : decode b_Md_accept 138 = .ok (.aload_n 0, 1) := by decide +kernel
theorem d_Md_accept_139 : decode b_Md_accept 139 = .ok (.getfield 68, 3) := by decide +kernel
theorem d_Md_accept_142 : decode b_Md_accept 142 = .ok (.iload_n 3, 1) := by decide +kernel
theorem d_Md_accept_143 : decode b_Md_accept 143 = .ok (.iaload, 1) := by decide +kernel
theorem d_Md_accept_144 : decode b_Md_accept 144 = .ok (.iload_n 2, 1) := by decide +kernel
theorem d_Md_accept_145 : decode b_Md_accept 145 = .ok (.if_icmp .ne (7), 3) := by decide +kernel
theorem d_Md_accept_148 : decode b_Md_accept 148 = .ok (.iconst (-1), 1) := by decide +kernel
theorem d_Md_accept_149 : decode b_Md_accept 149 = .ok (.goto (9), 3) := by decide +kernel
theorem d_Md_accept_152 : decode b_Md_accept 152 = .ok (.aload_n 0, 1) := by decide +kernel
theorem d_Md_accept_153 : decode b_Md_accept 153 = .ok (.getfield 68, 3) := by decide +kernel
theorem d_Md_accept_156 : decode b_Md_accept 156 = .ok (.iload_n 3, 1) := by decide +kernel
theorem d_Md_accept_157 : decode b_Md_accept 157 = .ok (.iaload, 1) := by decide +kernel
theorem d_Md_accept_158 : decode b_Md_accept 158 = .ok (.iastore, 1) := by decide +kernel
theorem d_Md_accept_159 : decode b_Md_accept 159 = .ok (.iinc 3 (1), 3) := by decide +kernel
theorem d_Md_accept_162 : decode b_Md_accept 162 = .ok (.goto (-35), 3) := by decide +kernel
theorem d_Md_accept_165 : decode b_Md_accept 165 = .ok (.iconst 4, 1) := by decide +kernel
theorem d_Md_accept_166 : decode b_Md_accept 166 = .ok (.ireturn, 1) := by decide +kernel
theorem d_Md_slotOf_0 : decode b_Md_slotOf 0 = .ok (.iconst 0, 1) := by decide +kernel
theorem d_Md_slotOf_1 : decode b_Md_slotOf 1 = .ok (.istore_n 2, 1) := by decide +kernel
theorem d_Md_slotOf_2 : decode b_Md_slotOf 2 = .ok (.iload_n 2, 1) := by decide +kernel
theorem d_Md_slotOf_3 : decode b_Md_slotOf 3 = .ok (.bipush 8, 2) := by decide +kernel
theorem d_Md_slotOf_5 : decode b_Md_slotOf 5 = .ok (.if_icmp .ge (19), 3) := by decide +kernel
theorem d_Md_slotOf_8 : decode b_Md_slotOf 8 = .ok (.aload_n 0, 1) := by decide +kernel
theorem d_Md_slotOf_9 : decode b_Md_slotOf 9 = .ok (.getfield 68, 3) := by decide +kernel
theorem d_Md_slotOf_12 : decode b_Md_slotOf 12 = .ok (.iload_n 2, 1) := by decide +kernel
theorem d_Md_slotOf_13 : decode b_Md_slotOf 13 = .ok (.iaload, 1) := by decide +kernel
theorem d_Md_slotOf_14 : decode b_Md_slotOf 14 = .ok (.iload_n 1, 1) := by decide +kernel
theorem d_Md_slotOf_15 : decode b_Md_slotOf 15 = .ok (.if_icmp .eq (9), 3) := by decide +kernel
theorem d_Md_slotOf_18 : decode b_Md_slotOf 18 = .ok (.iinc 2 (1), 3) := by decide +kernel
theorem d_Md_slotOf_21 : decode b_Md_slotOf 21 = .ok (.goto (-19), 3) := by decide +kernel
theorem d_Md_slotOf_24 : decode b_Md_slotOf 24 = .ok (.iload_n 2, 1) := by decide +kernel
theorem d_Md_slotOf_25 : decode b_Md_slotOf 25 = .ok (.ireturn, 1) := by decide +kernel
theorem d_Md_call_0 : decode b_Md_call 0 = .ok (.iload_n 1, 1) := by decide +kernel
theorem d_Md_call_1 : decode b_Md_call 1 = .ok (.ifCond .lt (10), 3) := by decide +kernel
theorem d_Md_call_4 : decode b_Md_call 4 = .ok (.iload_n 1, 1) := by decide +kernel
theorem d_Md_call_5 : decode b_Md_call 5 = .ok (.sipush 255, 3) := by decide +kernel
theorem d_Md_call_8 : decode b_Md_call 8 = .ok (.if_icmp .le (6), 3) := by decide +kernel
theorem d_Md_call_11 : decode b_Md_call 11 = .ok (.bipush (-4), 2) := by decide +kernel
theorem d_Md_call_13 : decode b_Md_call 13 = .ok (.ireturn, 1) := by decide +kernel
theorem d_Md_call_14 : decode b_Md_call 14 = .ok (.aload_n 0, 1) := by decide +kernel
theorem d_Md_call_15 : decode b_Md_call 15 = .ok (.iconst (-1), 1) := by decide +kernel
theorem d_Md_call_16 : decode b_Md_call 16 = .ok (.invokevirtual 204, 3) := by decide +kernel
theorem d_Md_call_19 : decode b_Md_call 19 = .ok (.istore_n 2, 1) := by decide +kernel
theorem d_Md_call_20 : decode b_Md_call 20 = .ok (.iload_n 2, 1) := by decide +kernel
theorem d_Md_call_21 : decode b_Md_call 21 = .ok (.bipush 8, 2) := by decide +kernel
theorem d_Md_call_23 : decode b_Md_call 23 = .ok (.if_icmp .eq (12), 3) := by decide +kernel
theorem d_Md_call_26 : decode b_Md_call 26 = .ok (.aload_n 0, 1) := by decide +kernel
theorem d_Md_call_27 : decode b_Md_call 27 = .ok (.getfield 201, 3) := by decide +kernel
theorem d_Md_call_30 : decode b_Md_call 30 = .ok (.bipush 100, 2) := by decide +kernel
theorem d_Md_call_32 : decode b_Md_call 32 = .ok (.if_icmp .ne (6), 3) := by decide +kernel
theorem d_Md_call_35 : decode b_Md_call 35 = .ok (.bipush (-5), 2) := by decide +kernel
theorem d_Md_call_37 : decode b_Md_call 37 = .ok (.ireturn, 1) := by decide +kernel
theorem d_Md_call_38 : decode b_Md_call 38 = .ok (.aload_n 0, 1) := by decide +kernel
theorem d_Md_call_39 : decode b_Md_call 39 = .ok (.iconst 0, 1) := by decide +kernel
theorem d_Md_call_40 : decode b_Md_call 40 = .ok (.putfield 87, 3) := by decide +kernel
theorem d_Md_call_43 : decode b_Md_call 43 = .ok (.aload_n 0, 1) := by decide +kernel
theorem d_Md_call_44 : decode b_Md_call 44 = .ok (.aload_n 0, 1) := by decide +kernel
theorem d_Md_call_45 : decode b_Md_call 45 = .ok (.getfield 201, 3) := by decide +kernel
theorem d_Md_call_48 : decode b_Md_call 48 = .ok (.invokevirtual 109, 3) := by decide +kernel
theorem d_Md_call_51 : decode b_Md_call 51 = .ok (.aload_n 0, 1) := by decide +kernel
theorem d_Md_call_52 : decode b_Md_call 52 = .ok (.iconst 0, 1) := by decide +kernel
theorem d_Md_call_53 : decode b_Md_call 53 = .ok (.invokevirtual 109, 3) := by decide +kernel
theorem d_Md_call_56 : decode b_Md_call 56 = .ok (.aload_n 0, 1) := by decide +kernel
theorem d_Md_call_57 : decode b_Md_call 57 = .ok (.iload_n 1, 1) := by decide +kernel
theorem d_Md_call_58 : decode b_Md_call 58 = .ok (.invokevirtual 109, 3) := by decide +kernel
theorem d_Md_call_61 : decode b_Md_call 61 = .ok (.aload_n 0, 1) := by decide +kernel
theorem d_Md_call_62 : decode b_Md_call 62 = .ok (.invokevirtual 207, 3) := by decide +kernel
theorem d_Md_call_65 : decode b_Md_call 65 = .ok (.aload_n 0, 1) := by decide +kernel
theorem d_Md_call_66 : decode b_Md_call 66 = .ok (.invokevirtual 169, 3) := by decide +kernel
theorem d_Md_call_69 : decode b_Md_call 69 = .ok (.iconst 0, 1) := by decide +kernel
theorem d_Md_call_70 : decode b_Md_call 70 = .ok (.istore_n 3, 1) := by decide +kernel
theorem d_Md_call_71 : decode b_Md_call 71 = .ok (.iload_n 3, 1) := by decide +kernel
theorem d_Md_call_72 : decode b_Md_call 72 = .ok (.aload_n 0, 1) := by decide +kernel
theorem d_Md_call_73 : decode b_Md_call 73 = .ok (.getfield 116, 3) := by decide +kernel
theorem d_Md_call_76 : decode b_Md_call 76 = .ok (.if_icmp .ge (27), 3) := by decide +kernel
theorem d_Md_call_79 : decode b_Md_call 79 = .ok (.aload_n 0, 1) := by decide +kernel
theorem d_Md_call_80 : decode b_Md_call 80 = .ok (.getfield 62, 3) := by decide +kernel
theorem d_Md_call_83 : decode b_Md_call 83 = .ok (.sipush 160, 3) := by decide +kernel
theorem d_Md_call_86 : decode b_Md_call 86 = .ok (.iload_n 2, 1) := by decide +kernel
theorem d_Md_call_87 : decode b_Md_call 87 = .ok (.imul, 1) := by decide +kernel
theorem d_Md_call_88 : decode b_Md_call 88 = .ok (.iload_n 3, 1) := by decide +kernel
theorem d_Md_call_89 : decode b_Md_call 89 = .ok (.iadd, 1) := by decide +kernel
theorem d_Md_call_90 : decode b_Md_call 90 = .ok (.aload_n 0, 1) := by decide +kernel
theorem d_Md_call_91 : decode b_Md_call 91 = .ok (.getfield 29, 3) := by decide +kernel
theorem d_Md_call_94 : decode b_Md_call 94 = .ok (.iload_n 3, 1) := by decide +kernel
theorem d_Md_call_95 : decode b_Md_call 95 = .ok (.iaload, 1) := by decide +kernel
theorem d_Md_call_96 : decode b_Md_call 96 = .ok (.iastore, 1) := by decide +kernel
theorem d_Md_call_97 : decode b_Md_call 97 = .ok (.iinc 3 (1), 3) := by decide +kernel
theorem d_Md_call_100 : decode b_Md_call 100 = .ok (.goto (-29), 3) := by decide +kernel
theorem d_Md_call_103 : decode b_Md_call 103 = .ok (.aload_n 0, 1) := by decide +kernel
theorem d_Md_call_104 : decode b_Md_call 104 = .ok (.getfield 65, 3) := by decide +kernel
theorem d_Md_call_107 : decode b_Md_call 107 = .ok (.iload_n 2, 1) := by decide +kernel
theorem d_Md_call_108 : decode b_Md_call 108 = .ok (.aload_n 0, 1) := by decide +kernel
theorem d_Md_call_109 : decode b_Md_call 109 = .ok (.getfield 116, 3) := by decide +kernel
theorem d_Md_call_112 : decode b_Md_call 112 = .ok (.iastore, 1) := by decide +kernel
theorem d_Md_call_113 : decode b_Md_call 113 = .ok (.aload_n 0, 1) := by decide +kernel
theorem d_Md_call_114 : decode b_Md_call 114 = .ok (.getfield 68, 3) := by decide +kernel
theorem d_Md_call_117 : decode b_Md_call 117 = .ok (.iload_n 2, 1) := by decide +kernel
theorem d_Md_call_118 : decode b_Md_call 118 = .ok (.aload_n 0, 1) := by decide +kernel
theorem d_Md_call_119 : decode b_Md_call 119 = .ok (.getfield 201, 3) := by decide +kernel
theorem d_Md_call_122 : decode b_Md_call 122 = .ok (.iastore, 1) := by decide +kernel
theorem d_Md_call_123 : decode b_Md_call 123 = .ok (.aload_n 0, 1) := by decide +kernel
theorem d_Md_call_124 : decode b_Md_call 124 = .ok (.getfield 53, 3) := by decide +kernel
theorem d_Md_call_127 : decode b_Md_call 127 = .ok (.aload_n 0, 1) := by decide +kernel
theorem d_Md_call_128 : decode b_Md_call 128 = .ok (.getfield 201, 3) := by decide +kernel
theorem d_Md_call_131 : decode b_Md_call 131 = .ok (.iconst 3, 1) := by decide +kernel
theorem d_Md_call_132 : decode b_Md_call 132 = .ok (.iastore, 1) := by decide +kernel
theorem d_Md_call_133 : decode b_Md_call 133 = .ok (.aload_n 0, 1) := by decide +kernel
theorem d_Md_call_134 : decode b_Md_call 134 = .ok (.getfield 59, 3) := by decide +kernel
theorem d_Md_call_137 : decode b_Md_call 137 = .ok (.aload_n 0, 1) := by decide +kernel
theorem d_Md_call_138 : decode b_Md_call 138 = .ok (.getfield 201, 3) := by decide +kernel
theorem d_Md_call_141 : decode b_Md_call 141 = .ok (.iconst 0, 1) := by decide +kernel
theorem d_Md_call_142 : decode b_Md_call 142 = .ok (.iastore, 1) := by decide +kernel
theorem d_Md_call_143 : decode b_Md_call 143 = .ok (.aload_n 0, 1) := by decide +kernel
theorem d_Md_call_144 : decode b_Md_call 144 = .ok (.iconst 0, 1) := by decide +kernel
theorem d_Md_call_145 : decode b_Md_call 145 = .ok (.invokevirtual 129, 3) := by decide +kernel
theorem d_Md_call_148 : decode b_Md_call 148 = .ok (.aload_n 0, 1) := by decide +kernel
theorem d_Md_call_149 : decode b_Md_call 149 = .ok (.dup, 1) := by decide +kernel
theorem d_Md_call_150 : decode b_Md_call 150 = .ok (.getfield 201, 3) := by decide +kernel
theorem d_Md_call_153 : decode b_Md_call 153 = .ok (.iconst 1, 1) := by decide +kernel
theorem d_Md_call_154 : decode b_Md_call 154 = .ok (.iadd, 1) := by decide +kernel
theorem d_Md_call_155 : decode b_Md_call 155 = .ok (.putfield 201, 3) := by decide +kernel
theorem d_Md_call_158 : decode b_Md_call 158 = .ok (.aload_n 0, 1) := by decide +kernel
theorem d_Md_call_159 : decode b_Md_call 159 = .ok (.getfield 201, 3) := by decide +kernel
theorem d_Md_call_162 : decode b_Md_call 162 = .ok (.iconst 1, 1) := by decide +kernel
theorem d_Md_call_163 : decode b_Md_call 163 = .ok (.isub, 1) := by decide +kernel
theorem d_Md_call_164 : decode b_Md_call 164 = .ok (.ireturn, 1) := by decide +kernel
theorem d_Md_tick_0 : decode b_Md_tick 0 = .ok (.iconst 0, 1) := by decide +kernel
theorem d_Md_tick_1 : decode b_Md_tick 1 = .ok (.istore_n 1, 1) := by decide +kernel
theorem d_Md_tick_2 : decode b_Md_tick 2 = .ok (.iconst 0, 1) := by decide +kernel
theorem d_Md_tick_3 : decode b_Md_tick 3 = .ok (.istore_n 2, 1) := by decide +kernel
theorem d_Md_tick_4 : decode b_Md_tick 4 = .ok (.iload_n 2, 1) := by decide +kernel
theorem d_Md_tick_5 : decode b_Md_tick 5 = .ok (.aload_n 0, 1) := by decide +kernel
theorem d_Md_tick_6 : decode b_Md_tick 6 = .ok (.getfield 201, 3) := by decide +kernel
theorem d_Md_tick_9 : decode b_Md_tick 9 = .ok (.if_icmp .ge (54), 3) := by decide +kernel
theorem d_Md_tick_12 : decode b_Md_tick 12 = .ok (.aload_n 0, 1) := by decide +kernel
theorem d_Md_tick_13 : decode b_Md_tick 13 = .ok (.getfield 53, 3) := by decide +kernel
theorem d_Md_tick_16 : decode b_Md_tick 16 = .ok (.iload_n 2, 1) := by decide +kernel
theorem d_Md_tick_17 : decode b_Md_tick 17 = .ok (.iaload, 1) := by decide +kernel
theorem d_Md_tick_18 : decode b_Md_tick 18 = .ok (.iconst 3, 1) := by decide +kernel
theorem d_Md_tick_19 : decode b_Md_tick 19 = .ok (.if_icmp .ne (38), 3) := by decide +kernel
theorem d_Md_tick_22 : decode b_Md_tick 22 = .ok (.aload_n 0, 1) := by decide +kernel
theorem d_Md_tick_23 : decode b_Md_tick 23 = .ok (.getfield 59, 3) := by decide +kernel
theorem d_Md_tick_26 : decode b_Md_tick 26 = .ok (.iload_n 2, 1) := by decide +kernel
theorem d_Md_tick_27 : decode b_Md_tick 27 = .ok (.dup2, 1) := by decide +kernel
theorem d_Md_tick_28 : decode b_Md_tick 28 = .ok (.iaload, 1) := by decide +kernel
theorem d_Md_tick_29 : decode b_Md_tick 29 = .ok (.iconst 1, 1) := by decide +kernel
theorem d_Md_tick_30 : decode b_Md_tick 30 = .ok (.iadd, 1) := by decide +kernel
theorem d_Md_tick_31 : decode b_Md_tick 31 = .ok (.iastore, 1) := by decide +kernel
theorem d_Md_tick_32 : decode b_Md_tick 32 = .ok (.aload_n 0, 1) := by decide +kernel
theorem d_Md_tick_33 : decode b_Md_tick 33 = .ok (.getfield 59, 3) := by decide +kernel
theorem d_Md_tick_36 : decode b_Md_tick 36 = .ok (.iload_n 2, 1) := by decide +kernel
theorem d_Md_tick_37 : decode b_Md_tick 37 = .ok (.iaload, 1) := by decide +kernel
theorem d_Md_tick_38 : decode b_Md_tick 38 = .ok (.iconst 3, 1) := by decide +kernel
theorem d_Md_tick_39 : decode b_Md_tick 39 = .ok (.if_icmp .ne (18), 3) := by decide +kernel
theorem d_Md_tick_42 : decode b_Md_tick 42 = .ok (.aload_n 0, 1) := by decide +kernel
theorem d_Md_tick_43 : decode b_Md_tick 43 = .ok (.getfield 59, 3) := by decide +kernel
theorem d_Md_tick_46 : decode b_Md_tick 46 = .ok (.iload_n 2, 1) := by decide +kernel
theorem d_Md_tick_47 : decode b_Md_tick 47 = .ok (.iconst 0, 1) := by decide +kernel
theorem d_Md_tick_48 : decode b_Md_tick 48 = .ok (.iastore, 1) := by decide +kernel
theorem d_Md_tick_49 : decode b_Md_tick 49 = .ok (.iinc 1 (1), 3) := by decide +kernel
theorem d_Md_tick_52 : decode b_Md_tick 52 = .ok (.aload_n 0, 1) := by decide +kernel
theorem d_Md_tick_53 : decode b_Md_tick 53 = .ok (.iload_n 2, 1) := by decide +kernel
theorem d_Md_tick_54 : decode b_Md_tick 54 = .ok (.invokevirtual 210, 3) := by decide +kernel
theorem d_Md_tick_57 : decode b_Md_tick 57 = .ok (.iinc 2 (1), 3) := by decide +kernel
theorem d_Md_tick_60 : decode b_Md_tick 60 = .ok (.goto (-56), 3) := by decide +kernel
theorem d_Md_tick_63 : decode b_Md_tick 63 = .ok (.iload_n 1, 1) := by decide +kernel
theorem d_Md_tick_64 : decode b_Md_tick 64 = .ok (.ireturn, 1) := by decide +kernel
theorem d_Md_sendKept_0 : decode b_Md_sendKept 0 = .ok (.aload_n 0, 1) := by decide +kernel
theorem d_Md_sendKept_1 : decode b_Md_sendKept 1 = .ok (.iload_n 1, 1) := by decide +kernel
theorem d_Md_sendKept_2 : decode b_Md_sendKept 2 = .ok (.invokevirtual 204, 3) := by decide +kernel
theorem d_Md_sendKept_5 : decode b_Md_sendKept 5 = .ok (.istore_n 2, 1) := by decide +kernel
theorem d_Md_sendKept_6 : decode b_Md_sendKept 6 = .ok (.aload_n 0, 1) := by decide +kernel
theorem d_Md_sendKept_7 : decode b_Md_sendKept 7 = .ok (.aload_n 0, 1) := by decide +kernel
theorem d_Md_sendKept_8 : decode b_Md_sendKept 8 = .ok (.getfield 65, 3) := by decide +kernel
theorem d_Md_sendKept_11 : decode b_Md_sendKept 11 = .ok (.iload_n 2, 1) := by decide +kernel
theorem d_Md_sendKept_12 : decode b_Md_sendKept 12 = .ok (.iaload, 1) := by decide +kernel
theorem d_Md_sendKept_13 : decode b_Md_sendKept 13 = .ok (.putfield 116, 3) := by decide +kernel
theorem d_Md_sendKept_16 : decode b_Md_sendKept 16 = .ok (.iconst 0, 1) := by decide +kernel
theorem d_Md_sendKept_17 : decode b_Md_sendKept 17 = .ok (.istore_n 3, 1) := by decide +kernel
theorem d_Md_sendKept_18 : decode b_Md_sendKept 18 = .ok (.iload_n 3, 1) := by decide +kernel
theorem d_Md_sendKept_19 : decode b_Md_sendKept 19 = .ok (.aload_n 0, 1) := by decide +kernel
theorem d_Md_sendKept_20 : decode b_Md_sendKept 20 = .ok (.getfield 116, 3) := by decide +kernel
theorem d_Md_sendKept_23 : decode b_Md_sendKept 23 = .ok (.if_icmp .ge (27), 3) := by decide +kernel
theorem d_Md_sendKept_26 : decode b_Md_sendKept 26 = .ok (.aload_n 0, 1) := by decide +kernel
theorem d_Md_sendKept_27 : decode b_Md_sendKept 27 = .ok (.getfield 29, 3) := by decide +kernel
theorem d_Md_sendKept_30 : decode b_Md_sendKept 30 = .ok (.iload_n 3, 1) := by decide +kernel
theorem d_Md_sendKept_31 : decode b_Md_sendKept 31 = .ok (.aload_n 0, 1) := by decide +kernel
theorem d_Md_sendKept_32 : decode b_Md_sendKept 32 = .ok (.getfield 62, 3) := by decide +kernel
theorem d_Md_sendKept_35 : decode b_Md_sendKept 35 = .ok (.sipush 160, 3) := by decide +kernel
theorem d_Md_sendKept_38 : decode b_Md_sendKept 38 = .ok (.iload_n 2, 1) := by decide +kernel
theorem d_Md_sendKept_39 : decode b_Md_sendKept 39 = .ok (.imul, 1) := by decide +kernel
theorem d_Md_sendKept_40 : decode b_Md_sendKept 40 = .ok (.iload_n 3, 1) := by decide +kernel
theorem d_Md_sendKept_41 : decode b_Md_sendKept 41 = .ok (.iadd, 1) := by decide +kernel
theorem d_Md_sendKept_42 : decode b_Md_sendKept 42 = .ok (.iaload, 1) := by decide +kernel
theorem d_Md_sendKept_43 : decode b_Md_sendKept 43 = .ok (.iastore, 1) := by decide +kernel
theorem d_Md_sendKept_44 : decode b_Md_sendKept 44 = .ok (.iinc 3 (1), 3) := by decide +kernel
theorem d_Md_sendKept_47 : decode b_Md_sendKept 47 = .ok (.goto (-29), 3) := by decide +kernel
theorem d_Md_sendKept_50 : decode b_Md_sendKept 50 = .ok (.aload_n 0, 1) := by decide +kernel
theorem d_Md_sendKept_51 : decode b_Md_sendKept 51 = .ok (.iconst 0, 1) := by decide +kernel
theorem d_Md_sendKept_52 : decode b_Md_sendKept 52 = .ok (.invokevirtual 129, 3) := by decide +kernel
theorem d_Md_sendKept_55 : decode b_Md_sendKept 55 = .ok (.return_, 1) := by decide +kernel
theorem d_Md_deliver_0 : decode b_Md_deliver 0 = .ok (.aload_n 0, 1) := by decide +kernel
theorem d_Md_deliver_1 : decode b_Md_deliver 1 = .ok (.iload_n 1, 1) := by decide +kernel
theorem d_Md_deliver_2 : decode b_Md_deliver 2 = .ok (.invokevirtual 122, 3) := by decide +kernel
theorem d_Md_deliver_5 : decode b_Md_deliver 5 = .ok (.ifCond .ne (5), 3) := by decide +kernel
theorem d_Md_deliver_8 : decode b_Md_deliver 8 = .ok (.iconst (-1), 1) := by decide +kernel
theorem d_Md_deliver_9 : decode b_Md_deliver 9 = .ok (.ireturn, 1) := by decide +kernel
theorem d_Md_deliver_10 : decode b_Md_deliver 10 = .ok (.aload_n 0, 1) := by decide +kernel
theorem d_Md_deliver_11 : decode b_Md_deliver 11 = .ok (.getfield 38, 3) := by decide +kernel
theorem d_Md_deliver_14 : decode b_Md_deliver 14 = .ok (.iload_n 1, 1) := by decide +kernel
theorem d_Md_deliver_15 : decode b_Md_deliver 15 = .ok (.baload, 1) := by decide +kernel
theorem d_Md_deliver_16 : decode b_Md_deliver 16 = .ok (.istore_n 2, 1) := by decide +kernel
theorem d_Md_deliver_17 : decode b_Md_deliver 17 = .ok (.aload_n 0, 1) := by decide +kernel
theorem d_Md_deliver_18 : decode b_Md_deliver 18 = .ok (.iload_n 1, 1) := by decide +kernel
theorem d_Md_deliver_19 : decode b_Md_deliver 19 = .ok (.invokevirtual 126, 3) := by decide +kernel
theorem d_Md_deliver_22 : decode b_Md_deliver 22 = .ok (.aload_n 0, 1) := by decide +kernel
theorem d_Md_deliver_23 : decode b_Md_deliver 23 = .ok (.iload_n 1, 1) := by decide +kernel
theorem d_Md_deliver_24 : decode b_Md_deliver 24 = .ok (.invokevirtual 213, 3) := by decide +kernel
theorem d_Md_deliver_27 : decode b_Md_deliver 27 = .ok (.pop, 1) := by decide +kernel
theorem d_Md_deliver_28 : decode b_Md_deliver 28 = .ok (.iload_n 2, 1) := by decide +kernel
theorem d_Md_deliver_29 : decode b_Md_deliver 29 = .ok (.ifCond .eq (10), 3) := by decide +kernel
theorem d_Md_deliver_32 : decode b_Md_deliver 32 = .ok (.aload_n 0, 1) := by decide +kernel
theorem d_Md_deliver_33 : decode b_Md_deliver 33 = .ok (.invokevirtual 216, 3) := by decide +kernel
theorem d_Md_deliver_36 : decode b_Md_deliver 36 = .ok (.goto (7), 3) := by decide +kernel
theorem d_Md_deliver_39 : decode b_Md_deliver 39 = .ok (.aload_n 0, 1) := by decide +kernel
theorem d_Md_deliver_40 : decode b_Md_deliver 40 = .ok (.invokevirtual 219, 3) := by decide +kernel
theorem d_Md_deliver_43 : decode b_Md_deliver 43 = .ok (.ireturn, 1) := by decide +kernel
theorem d_Md_add_0 : decode b_Md_add 0 = .ok (.iload_n 1, 1) := by decide +kernel
theorem d_Md_add_1 : decode b_Md_add 1 = .ok (.ifCond .lt (20), 3) := by decide +kernel
theorem d_Md_add_4 : decode b_Md_add 4 = .ok (.iload_n 1, 1) := by decide +kernel
theorem d_Md_add_5 : decode b_Md_add 5 = .ok (.sipush 255, 3) := by decide +kernel
theorem d_Md_add_8 : decode b_Md_add 8 = .ok (.if_icmp .gt (13), 3) := by decide +kernel
theorem d_Md_add_11 : decode b_Md_add 11 = .ok (.aload_n 0, 1) := by decide +kernel
theorem d_Md_add_12 : decode b_Md_add 12 = .ok (.getfield 222, 3) := by decide +kernel
theorem d_Md_add_15 : decode b_Md_add 15 = .ok (.sipush 200, 3) := by decide +kernel
theorem d_Md_add_18 : decode b_Md_add 18 = .ok (.if_icmp .ne (5), 3) := by decide +kernel
theorem d_Md_add_21 : decode b_Md_add 21 = .ok (.iconst 0, 1) := by decide +kernel
theorem d_Md_add_22 : decode b_Md_add 22 = .ok (.ireturn, 1) := by decide +kernel
theorem d_Md_add_23 : decode b_Md_add 23 = .ok (.aload_n 0, 1) := by decide +kernel
theorem d_Md_add_24 : decode b_Md_add 24 = .ok (.getfield 41, 3) := by decide +kernel
theorem d_Md_add_27 : decode b_Md_add 27 = .ok (.aload_n 0, 1) := by decide +kernel
theorem d_Md_add_28 : decode b_Md_add 28 = .ok (.getfield 222, 3) := by decide +kernel
theorem d_Md_add_31 : decode b_Md_add 31 = .ok (.iload_n 1, 1) := by decide +kernel
theorem d_Md_add_32 : decode b_Md_add 32 = .ok (.iastore, 1) := by decide +kernel
theorem d_Md_add_33 : decode b_Md_add 33 = .ok (.aload_n 0, 1) := by decide +kernel
theorem d_Md_add_34 : decode b_Md_add 34 = .ok (.dup, 1) := by decide +kernel
theorem d_Md_add_35 : decode b_Md_add 35 = .ok (.getfield 222, 3) := by decide +kernel
theorem d_Md_add_38 : decode b_Md_add 38 = .ok (.iconst 1, 1) := by decide +kernel
theorem d_Md_add_39 : decode b_Md_add 39 = .ok (.iadd, 1) := by decide +kernel
theorem d_Md_add_40 : decode b_Md_add 40 = .ok (.putfield 222, 3) := by decide +kernel
theorem d_Md_add_43 : decode b_Md_add 43 = .ok (.iconst 1, 1) := by decide +kernel
theorem d_Md_add_44 : decode b_Md_add 44 = .ok (.ireturn, 1) := by decide +kernel
theorem d_Md_hand_0 : decode b_Md_hand 0 = .ok (.iconst 0, 1) := by decide +kernel
theorem d_Md_hand_1 : decode b_Md_hand 1 = .ok (.istore_n 2, 1) := by decide +kernel
theorem d_Md_hand_2 : decode b_Md_hand 2 = .ok (.iload_n 2, 1) := by decide +kernel
theorem d_Md_hand_3 : decode b_Md_hand 3 = .ok (.aload_n 0, 1) := by decide +kernel
theorem d_Md_hand_4 : decode b_Md_hand 4 = .ok (.getfield 222, 3) := by decide +kernel
theorem d_Md_hand_7 : decode b_Md_hand 7 = .ok (.if_icmp .ge (21), 3) := by decide +kernel
theorem d_Md_hand_10 : decode b_Md_hand 10 = .ok (.aload_n 0, 1) := by decide +kernel
theorem d_Md_hand_11 : decode b_Md_hand 11 = .ok (.getfield 29, 3) := by decide +kernel
theorem d_Md_hand_14 : decode b_Md_hand 14 = .ok (.iload_n 2, 1) := by decide +kernel
theorem d_Md_hand_15 : decode b_Md_hand 15 = .ok (.aload_n 0, 1) := by decide +kernel
theorem d_Md_hand_16 : decode b_Md_hand 16 = .ok (.getfield 41, 3) := by decide +kernel
theorem d_Md_hand_19 : decode b_Md_hand 19 = .ok (.iload_n 2, 1) := by decide +kernel
theorem d_Md_hand_20 : decode b_Md_hand 20 = .ok (.iaload, 1) := by decide +kernel
theorem d_Md_hand_21 : decode b_Md_hand 21 = .ok (.iastore, 1) := by decide +kernel
theorem d_Md_hand_22 : decode b_Md_hand 22 = .ok (.iinc 2 (1), 3) := by decide +kernel
theorem d_Md_hand_25 : decode b_Md_hand 25 = .ok (.goto (-23), 3) := by decide +kernel
theorem d_Md_hand_28 : decode b_Md_hand 28 = .ok (.aload_n 0, 1) := by decide +kernel
theorem d_Md_hand_29 : decode b_Md_hand 29 = .ok (.aload_n 0, 1) := by decide +kernel
theorem d_Md_hand_30 : decode b_Md_hand 30 = .ok (.getfield 222, 3) := by decide +kernel
theorem d_Md_hand_33 : decode b_Md_hand 33 = .ok (.putfield 116, 3) := by decide +kernel
theorem d_Md_hand_36 : decode b_Md_hand 36 = .ok (.aload_n 0, 1) := by decide +kernel
theorem d_Md_hand_37 : decode b_Md_hand 37 = .ok (.iconst 0, 1) := by decide +kernel
theorem d_Md_hand_38 : decode b_Md_hand 38 = .ok (.putfield 222, 3) := by decide +kernel
theorem d_Md_hand_41 : decode b_Md_hand 41 = .ok (.iload_n 1, 1) := by decide +kernel
theorem d_Md_hand_42 : decode b_Md_hand 42 = .ok (.ifCond .eq (10), 3) := by decide +kernel
theorem d_Md_hand_45 : decode b_Md_hand 45 = .ok (.aload_n 0, 1) := by decide +kernel
theorem d_Md_hand_46 : decode b_Md_hand 46 = .ok (.invokevirtual 219, 3) := by decide +kernel
theorem d_Md_hand_49 : decode b_Md_hand 49 = .ok (.goto (7), 3) := by decide +kernel
theorem d_Md_hand_52 : decode b_Md_hand 52 = .ok (.aload_n 0, 1) := by decide +kernel
theorem d_Md_hand_53 : decode b_Md_hand 53 = .ok (.invokevirtual 216, 3) := by decide +kernel
theorem d_Md_hand_56 : decode b_Md_hand 56 = .ok (.ireturn, 1) := by decide +kernel
theorem d_Md_total_0 : decode b_Md_total 0 = .ok (.aload_n 0, 1) := by decide +kernel
theorem d_Md_total_1 : decode b_Md_total 1 = .ok (.getfield 172, 3) := by decide +kernel
theorem d_Md_total_4 : decode b_Md_total 4 = .ok (.ireturn, 1) := by decide +kernel
theorem d_Md_runs_0 : decode b_Md_runs 0 = .ok (.aload_n 0, 1) := by decide +kernel
theorem d_Md_runs_1 : decode b_Md_runs 1 = .ok (.getfield 179, 3) := by decide +kernel
theorem d_Md_runs_4 : decode b_Md_runs 4 = .ok (.ireturn, 1) := by decide +kernel
theorem d_Md_status_0 : decode b_Md_status 0 = .ok (.iload_n 1, 1) := by decide +kernel
theorem d_Md_status_1 : decode b_Md_status 1 = .ok (.ifCond .lt (11), 3) := by decide +kernel
theorem d_Md_status_4 : decode b_Md_status 4 = .ok (.iload_n 1, 1) := by decide +kernel
theorem d_Md_status_5 : decode b_Md_status 5 = .ok (.aload_n 0, 1) := by decide +kernel
theorem d_Md_status_6 : decode b_Md_status 6 = .ok (.getfield 201, 3) := by decide +kernel
theorem d_Md_status_9 : decode b_Md_status 9 = .ok (.if_icmp .lt (7), 3) := by decide +kernel
theorem d_Md_status_12 : decode b_Md_status 12 = .ok (.iconst (-1), 1) := by decide +kernel
theorem d_Md_status_13 : decode b_Md_status 13 = .ok (.goto (9), 3) := by decide +kernel
theorem d_Md_status_16 : decode b_Md_status 16 = .ok (.aload_n 0, 1) := by decide +kernel
theorem d_Md_status_17 : decode b_Md_status 17 = .ok (.getfield 53, 3) := by decide +kernel
theorem d_Md_status_20 : decode b_Md_status 20 = .ok (.iload_n 1, 1) := by decide +kernel
theorem d_Md_status_21 : decode b_Md_status 21 = .ok (.iaload, 1) := by decide +kernel
theorem d_Md_status_22 : decode b_Md_status 22 = .ok (.ireturn, 1) := by decide +kernel
theorem d_Md_result_0 : decode b_Md_result 0 = .ok (.iload_n 1, 1) := by decide +kernel
theorem d_Md_result_1 : decode b_Md_result 1 = .ok (.ifCond .lt (20), 3) := by decide +kernel
theorem d_Md_result_4 : decode b_Md_result 4 = .ok (.iload_n 1, 1) := by decide +kernel
theorem d_Md_result_5 : decode b_Md_result 5 = .ok (.aload_n 0, 1) := by decide +kernel
theorem d_Md_result_6 : decode b_Md_result 6 = .ok (.getfield 201, 3) := by decide +kernel
theorem d_Md_result_9 : decode b_Md_result 9 = .ok (.if_icmp .ge (12), 3) := by decide +kernel
theorem d_Md_result_12 : decode b_Md_result 12 = .ok (.aload_n 0, 1) := by decide +kernel
theorem d_Md_result_13 : decode b_Md_result 13 = .ok (.getfield 53, 3) := by decide +kernel
theorem d_Md_result_16 : decode b_Md_result 16 = .ok (.iload_n 1, 1) := by decide +kernel
theorem d_Md_result_17 : decode b_Md_result 17 = .ok (.iaload, 1) := by decide +kernel
theorem d_Md_result_18 : decode b_Md_result 18 = .ok (.ifCond .eq (7), 3) := by decide +kernel
theorem d_Md_result_21 : decode b_Md_result 21 = .ok (.iconst 0, 1) := by decide +kernel
theorem d_Md_result_22 : decode b_Md_result 22 = .ok (.goto (9), 3) := by decide +kernel
theorem d_Md_result_25 : decode b_Md_result 25 = .ok (.aload_n 0, 1) := by decide +kernel
theorem d_Md_result_26 : decode b_Md_result 26 = .ok (.getfield 56, 3) := by decide +kernel
theorem d_Md_result_29 : decode b_Md_result 29 = .ok (.iload_n 1, 1) := by decide +kernel
theorem d_Md_result_30 : decode b_Md_result 30 = .ok (.iaload, 1) := by decide +kernel
theorem d_Md_result_31 : decode b_Md_result 31 = .ok (.ireturn, 1) := by decide +kernel
theorem d_Md_flight_0 : decode b_Md_flight 0 = .ok (.aload_n 0, 1) := by decide +kernel
theorem d_Md_flight_1 : decode b_Md_flight 1 = .ok (.getfield 119, 3) := by decide +kernel
theorem d_Md_flight_4 : decode b_Md_flight 4 = .ok (.ireturn, 1) := by decide +kernel
theorem d_Md_size_0 : decode b_Md_size 0 = .ok (.aload_n 0, 1) := by decide +kernel
theorem d_Md_size_1 : decode b_Md_size 1 = .ok (.iload_n 1, 1) := by decide +kernel
theorem d_Md_size_2 : decode b_Md_size 2 = .ok (.invokevirtual 122, 3) := by decide +kernel
theorem d_Md_size_5 : decode b_Md_size 5 = .ok (.ifCond .eq (12), 3) := by decide +kernel
theorem d_Md_size_8 : decode b_Md_size 8 = .ok (.aload_n 0, 1) := by decide +kernel
theorem d_Md_size_9 : decode b_Md_size 9 = .ok (.getfield 35, 3) := by decide +kernel
theorem d_Md_size_12 : decode b_Md_size 12 = .ok (.iload_n 1, 1) := by decide +kernel
theorem d_Md_size_13 : decode b_Md_size 13 = .ok (.iaload, 1) := by decide +kernel
theorem d_Md_size_14 : decode b_Md_size 14 = .ok (.goto (4), 3) := by decide +kernel
theorem d_Md_size_17 : decode b_Md_size 17 = .ok (.iconst (-1), 1) := by decide +kernel
theorem d_Md_size_18 : decode b_Md_size 18 = .ok (.ireturn, 1) := by decide +kernel
theorem d_Md_byteAt_0 : decode b_Md_byteAt 0 = .ok (.aload_n 0, 1) := by decide +kernel
theorem d_Md_byteAt_1 : decode b_Md_byteAt 1 = .ok (.iload_n 1, 1) := by decide +kernel
theorem d_Md_byteAt_2 : decode b_Md_byteAt 2 = .ok (.invokevirtual 122, 3) := by decide +kernel
theorem d_Md_byteAt_5 : decode b_Md_byteAt 5 = .ok (.ifCond .eq (17), 3) := by decide +kernel
theorem d_Md_byteAt_8 : decode b_Md_byteAt 8 = .ok (.iload_n 2, 1) := by decide +kernel
theorem d_Md_byteAt_9 : decode b_Md_byteAt 9 = .ok (.ifCond .lt (13), 3) := by decide +kernel
theorem d_Md_byteAt_12 : decode b_Md_byteAt 12 = .ok (.iload_n 2, 1) := by decide +kernel
theorem d_Md_byteAt_13 : decode b_Md_byteAt 13 = .ok (.aload_n 0, 1) := by decide +kernel
theorem d_Md_byteAt_14 : decode b_Md_byteAt 14 = .ok (.getfield 35, 3) := by decide +kernel
theorem d_Md_byteAt_17 : decode b_Md_byteAt 17 = .ok (.iload_n 1, 1) := by decide +kernel
theorem d_Md_byteAt_18 : decode b_Md_byteAt 18 = .ok (.iaload, 1) := by decide +kernel
theorem d_Md_byteAt_19 : decode b_Md_byteAt 19 = .ok (.if_icmp .lt (7), 3) := by decide +kernel
theorem d_Md_byteAt_22 : decode b_Md_byteAt 22 = .ok (.iconst (-1), 1) := by decide +kernel
theorem d_Md_byteAt_23 : decode b_Md_byteAt 23 = .ok (.goto (15), 3) := by decide +kernel
theorem d_Md_byteAt_26 : decode b_Md_byteAt 26 = .ok (.aload_n 0, 1) := by decide +kernel
theorem d_Md_byteAt_27 : decode b_Md_byteAt 27 = .ok (.getfield 32, 3) := by decide +kernel
theorem d_Md_byteAt_30 : decode b_Md_byteAt 30 = .ok (.sipush 160, 3) := by decide +kernel
theorem d_Md_byteAt_33 : decode b_Md_byteAt 33 = .ok (.iload_n 1, 1) := by decide +kernel
theorem d_Md_byteAt_34 : decode b_Md_byteAt 34 = .ok (.imul, 1) := by decide +kernel
theorem d_Md_byteAt_35 : decode b_Md_byteAt 35 = .ok (.iload_n 2, 1) := by decide +kernel
theorem d_Md_byteAt_36 : decode b_Md_byteAt 36 = .ok (.iadd, 1) := by decide +kernel
theorem d_Md_byteAt_37 : decode b_Md_byteAt 37 = .ok (.iaload, 1) := by decide +kernel
theorem d_Md_byteAt_38 : decode b_Md_byteAt 38 = .ok (.ireturn, 1) := by decide +kernel
theorem d_Lw_cell_0 : decode b_Lw_cell 0 = .ok (.iload_n 1, 1) := by decide +kernel
theorem d_Lw_cell_1 : decode b_Lw_cell 1 = .ok (.aload_n 0, 1) := by decide +kernel
theorem d_Lw_cell_2 : decode b_Lw_cell 2 = .ok (.arraylength, 1) := by decide +kernel
theorem d_Lw_cell_3 : decode b_Lw_cell 3 = .ok (.if_icmp .ge (9), 3) := by decide +kernel
theorem d_Lw_cell_6 : decode b_Lw_cell 6 = .ok (.aload_n 0, 1) := by decide +kernel
theorem d_Lw_cell_7 : decode b_Lw_cell 7 = .ok (.iload_n 1, 1) := by decide +kernel
theorem d_Lw_cell_8 : decode b_Lw_cell 8 = .ok (.iaload, 1) := by decide +kernel
theorem d_Lw_cell_9 : decode b_Lw_cell 9 = .ok (.goto (4), 3) := by decide +kernel
theorem d_Lw_cell_12 : decode b_Lw_cell 12 = .ok (.iconst 0, 1) := by decide +kernel
theorem d_Lw_cell_13 : decode b_Lw_cell 13 = .ok (.ireturn, 1) := by decide +kernel
theorem d_Lw_law_0 : decode b_Lw_law 0 = .ok (.new 7, 3) := by decide +kernel
theorem d_Lw_law_3 : decode b_Lw_law 3 = .ok (.dup, 1) := by decide +kernel
theorem d_Lw_law_4 : decode b_Lw_law 4 = .ok (.aload_n 0, 1) := by decide +kernel
theorem d_Lw_law_5 : decode b_Lw_law 5 = .ok (.iconst 0, 1) := by decide +kernel
theorem d_Lw_law_6 : decode b_Lw_law 6 = .ok (.invokestatic 9, 3) := by decide +kernel
theorem d_Lw_law_9 : decode b_Lw_law 9 = .ok (.invokespecial 15, 3) := by decide +kernel
theorem d_Lw_law_12 : decode b_Lw_law 12 = .ok (.astore_n 1, 1) := by decide +kernel
theorem d_Lw_law_13 : decode b_Lw_law 13 = .ok (.new 18, 3) := by decide +kernel
theorem d_Lw_law_16 : decode b_Lw_law 16 = .ok (.dup, 1) := by decide +kernel
theorem d_Lw_law_17 : decode b_Lw_law 17 = .ok (.aload_n 0, 1) := by decide +kernel
theorem d_Lw_law_18 : decode b_Lw_law 18 = .ok (.iconst 0, 1) := by decide +kernel
theorem d_Lw_law_19 : decode b_Lw_law 19 = .ok (.invokestatic 9, 3) := by decide +kernel
theorem d_Lw_law_22 : decode b_Lw_law 22 = .ok (.invokespecial 20, 3) := by decide +kernel
theorem d_Lw_law_25 : decode b_Lw_law 25 = .ok (.astore_n 2, 1) := by decide +kernel
theorem d_Lw_law_26 : decode b_Lw_law 26 = .ok (.iconst 1, 1) := by decide +kernel
theorem d_Lw_law_27 : decode b_Lw_law 27 = .ok (.istore_n 3, 1) := by decide +kernel
theorem d_Lw_law_28 : decode b_Lw_law 28 = .ok (.iload_n 3, 1) := by decide +kernel
theorem d_Lw_law_29 : decode b_Lw_law 29 = .ok (.aload_n 0, 1) := by decide +kernel
theorem d_Lw_law_30 : decode b_Lw_law 30 = .ok (.arraylength, 1) := by decide +kernel
theorem d_Lw_law_31 : decode b_Lw_law 31 = .ok (.iconst 4, 1) := by decide +kernel
theorem d_Lw_law_32 : decode b_Lw_law 32 = .ok (.isub, 1) := by decide +kernel
theorem d_Lw_law_33 : decode b_Lw_law 33 = .ok (.if_icmp .gt (508), 3) := by decide +kernel
theorem d_Lw_law_36 : decode b_Lw_law 36 = .ok (.aload_n 0, 1) := by decide +kernel
theorem d_Lw_law_37 : decode b_Lw_law 37 = .ok (.iload_n 3, 1) := by decide +kernel
theorem d_Lw_law_38 : decode b_Lw_law 38 = .ok (.iaload, 1) := by decide +kernel
theorem d_Lw_law_39 : decode b_Lw_law 39 = .ok (.bipush 31, 2) := by decide +kernel
theorem d_Lw_law_41 : decode b_Lw_law 41 = .ok (.iand, 1) := by decide +kernel
theorem d_Lw_law_42 : decode b_Lw_law 42 = .ok (.tableswitch (493) (0) (16) #[(82), (141), (174), (185), (208), (221), (244), (267), (290), (313), (352), (365), (378), (401), (424), (437), (460)], 82) := by decide +kernel
theorem d_Lw_law_124 : decode b_Lw_law 124 = .ok (.aload_n 1, 1) := by decide +kernel
theorem d_Lw_law_125 : decode b_Lw_law 125 = .ok (.aload_n 0, 1) := by decide +kernel
theorem d_Lw_law_126 : decode b_Lw_law 126 = .ok (.iload_n 3, 1) := by decide +kernel
theorem d_Lw_law_127 : decode b_Lw_law 127 = .ok (.iconst 1, 1) := by decide +kernel
theorem d_Lw_law_128 : decode b_Lw_law 128 = .ok (.iadd, 1) := by decide +kernel
theorem d_Lw_law_129 : decode b_Lw_law 129 = .ok (.iaload, 1) := by decide +kernel
theorem d_Lw_law_130 : decode b_Lw_law 130 = .ok (.aload_n 0, 1) := by decide +kernel
theorem d_Lw_law_131 : decode b_Lw_law 131 = .ok (.iload_n 3, 1) := by decide +kernel
theorem d_Lw_law_132 : decode b_Lw_law 132 = .ok (.iconst 2, 1) := by decide +kernel
theorem d_Lw_law_133 : decode b_Lw_law 133 = .ok (.iadd, 1) := by decide +kernel
theorem d_Lw_law_134 : decode b_Lw_law 134 = .ok (.iaload, 1) := by decide +kernel
theorem d_Lw_law_135 : decode b_Lw_law 135 = .ok (.aload_n 0, 1) := by decide +kernel
theorem d_Lw_law_136 : decode b_Lw_law 136 = .ok (.iload_n 3, 1) := by decide +kernel
theorem d_Lw_law_137 : decode b_Lw_law 137 = .ok (.iconst 3, 1) := by decide +kernel
theorem d_Lw_law_138 : decode b_Lw_law 138 = .ok (.iadd, 1) := by decide +kernel
theorem d_Lw_law_139 : decode b_Lw_law 139 = .ok (.iaload, 1) := by decide +kernel
theorem d_Lw_law_140 : decode b_Lw_law 140 = .ok (.ifCond .eq (7), 3) := by decide +kernel
theorem d_Lw_law_143 : decode b_Lw_law 143 = .ok (.iconst 1, 1) := by decide +kernel
theorem d_Lw_law_144 : decode b_Lw_law 144 = .ok (.goto (4), 3) := by decide +kernel
theorem d_Lw_law_147 : decode b_Lw_law 147 = .ok (.iconst 0, 1) := by decide +kernel
theorem d_Lw_law_148 : decode b_Lw_law 148 = .ok (.invokevirtual 21, 3) := by decide +kernel
theorem d_Lw_law_151 : decode b_Lw_law 151 = .ok (.aload_n 2, 1) := by decide +kernel
theorem d_Lw_law_152 : decode b_Lw_law 152 = .ok (.aload_n 0, 1) := by decide +kernel
theorem d_Lw_law_153 : decode b_Lw_law 153 = .ok (.iload_n 3, 1) := by decide +kernel
theorem d_Lw_law_154 : decode b_Lw_law 154 = .ok (.iconst 1, 1) := by decide +kernel
theorem d_Lw_law_155 : decode b_Lw_law 155 = .ok (.iadd, 1) := by decide +kernel
theorem d_Lw_law_156 : decode b_Lw_law 156 = .ok (.iaload, 1) := by decide +kernel
theorem d_Lw_law_157 : decode b_Lw_law 157 = .ok (.aload_n 0, 1) := by decide +kernel
theorem d_Lw_law_158 : decode b_Lw_law 158 = .ok (.iload_n 3, 1) := by decide +kernel
theorem d_Lw_law_159 : decode b_Lw_law 159 = .ok (.iconst 2, 1) := by decide +kernel
theorem d_Lw_law_160 : decode b_Lw_law 160 = .ok (.iadd, 1) := by decide +kernel
theorem d_Lw_law_161 : decode b_Lw_law 161 = .ok (.iaload, 1) := by decide +kernel
theorem d_Lw_law_162 : decode b_Lw_law 162 = .ok (.aload_n 0, 1) := by decide +kernel
theorem d_Lw_law_163 : decode b_Lw_law 163 = .ok (.iload_n 3, 1) := by decide +kernel
theorem d_Lw_law_164 : decode b_Lw_law 164 = .ok (.iconst 3, 1) := by decide +kernel
theorem d_Lw_law_165 : decode b_Lw_law 165 = .ok (.iadd, 1) := by decide +kernel
theorem d_Lw_law_166 : decode b_Lw_law 166 = .ok (.iaload, 1) := by decide +kernel
theorem d_Lw_law_167 : decode b_Lw_law 167 = .ok (.ifCond .eq (7), 3) := by decide +kernel
theorem d_Lw_law_170 : decode b_Lw_law 170 = .ok (.iconst 1, 1) := by decide +kernel
theorem d_Lw_law_171 : decode b_Lw_law 171 = .ok (.goto (4), 3) := by decide +kernel
theorem d_Lw_law_174 : decode b_Lw_law 174 = .ok (.iconst 0, 1) := by decide +kernel
theorem d_Lw_law_175 : decode b_Lw_law 175 = .ok (.invokevirtual 25, 3) := by decide +kernel
theorem d_Lw_law_178 : decode b_Lw_law 178 = .ok (.if_icmp .eq (357), 3) := by decide +kernel
theorem d_Lw_law_181 : decode b_Lw_law 181 = .ok (.iconst 0, 1) := by decide +kernel
theorem d_Lw_law_182 : decode b_Lw_law 182 = .ok (.ireturn, 1) := by decide +kernel
theorem d_Lw_law_183 : decode b_Lw_law 183 = .ok (.aload_n 1, 1) := by decide +kernel
theorem d_Lw_law_184 : decode b_Lw_law 184 = .ok (.aload_n 0, 1) := by decide +kernel
theorem d_Lw_law_185 : decode b_Lw_law 185 = .ok (.iload_n 3, 1) := by decide +kernel
theorem d_Lw_law_186 : decode b_Lw_law 186 = .ok (.iconst 1, 1) := by decide +kernel
theorem d_Lw_law_187 : decode b_Lw_law 187 = .ok (.iadd, 1) := by decide +kernel
theorem d_Lw_law_188 : decode b_Lw_law 188 = .ok (.iaload, 1) := by decide +kernel
theorem d_Lw_law_189 : decode b_Lw_law 189 = .ok (.aload_n 0, 1) := by decide +kernel
theorem d_Lw_law_190 : decode b_Lw_law 190 = .ok (.iload_n 3, 1) := by decide +kernel
theorem d_Lw_law_191 : decode b_Lw_law 191 = .ok (.iconst 2, 1) := by decide +kernel
theorem d_Lw_law_192 : decode b_Lw_law 192 = .ok (.iadd, 1) := by decide +kernel
theorem d_Lw_law_193 : decode b_Lw_law 193 = .ok (.iaload, 1) := by decide +kernel
theorem d_Lw_law_194 : decode b_Lw_law 194 = .ok (.invokevirtual 26, 3) := by decide +kernel
theorem d_Lw_law_197 : decode b_Lw_law 197 = .ok (.aload_n 2, 1) := by decide +kernel
theorem d_Lw_law_198 : decode b_Lw_law 198 = .ok (.aload_n 0, 1) := by decide +kernel
theorem d_Lw_law_199 : decode b_Lw_law 199 = .ok (.iload_n 3, 1) := by decide +kernel
theorem d_Lw_law_200 : decode b_Lw_law 200 = .ok (.iconst 1, 1) := by decide +kernel
theorem d_Lw_law_201 : decode b_Lw_law 201 = .ok (.iadd, 1) := by decide +kernel
theorem d_Lw_law_202 : decode b_Lw_law 202 = .ok (.iaload, 1) := by decide +kernel
theorem d_Lw_law_203 : decode b_Lw_law 203 = .ok (.aload_n 0, 1) := by decide +kernel
theorem d_Lw_law_204 : decode b_Lw_law 204 = .ok (.iload_n 3, 1) := by decide +kernel
theorem d_Lw_law_205 : decode b_Lw_law 205 = .ok (.iconst 2, 1) := by decide +kernel
theorem d_Lw_law_206 : decode b_Lw_law 206 = .ok (.iadd, 1) := by decide +kernel
theorem d_Lw_law_207 : decode b_Lw_law 207 = .ok (.iaload, 1) := by decide +kernel
theorem d_Lw_law_208 : decode b_Lw_law 208 = .ok (.invokevirtual 30, 3) := by decide +kernel
theorem d_Lw_law_211 : decode b_Lw_law 211 = .ok (.if_icmp .eq (324), 3) := by decide +kernel
theorem d_Lw_law_214 : decode b_Lw_law 214 = .ok (.iconst 0, 1) := by decide +kernel
theorem d_Lw_law_215 : decode b_Lw_law 215 = .ok (.ireturn, 1) := by decide +kernel
theorem d_Lw_law_216 : decode b_Lw_law 216 = .ok (.aload_n 1, 1) := by decide +kernel
theorem d_Lw_law_217 : decode b_Lw_law 217 = .ok (.invokevirtual 31, 3) := by decide +kernel
theorem d_Lw_law_220 : decode b_Lw_law 220 = .ok (.aload_n 2, 1) := by decide +kernel
theorem d_Lw_law_221 : decode b_Lw_law 221 = .ok (.invokevirtual 34, 3) := by decide +kernel
theorem d_Lw_law_224 : decode b_Lw_law 224 = .ok (.goto (311), 3) := by decide +kernel
theorem d_Lw_law_227 : decode b_Lw_law 227 = .ok (.aload_n 1, 1) := by decide +kernel
theorem d_Lw_law_228 : decode b_Lw_law 228 = .ok (.aload_n 0, 1) := by decide +kernel
theorem d_Lw_law_229 : decode b_Lw_law 229 = .ok (.iload_n 3, 1) := by decide +kernel
theorem d_Lw_law_230 : decode b_Lw_law 230 = .ok (.iconst 1, 1) := by decide +kernel
theorem d_Lw_law_231 : decode b_Lw_law 231 = .ok (.iadd, 1) := by decide +kernel
theorem d_Lw_law_232 : decode b_Lw_law 232 = .ok (.iaload, 1) := by decide +kernel
theorem d_Lw_law_233 : decode b_Lw_law 233 = .ok (.invokevirtual 35, 3) := by decide +kernel
theorem d_Lw_law_236 : decode b_Lw_law 236 = .ok (.aload_n 2, 1) := by decide +kernel
theorem d_Lw_law_237 : decode b_Lw_law 237 = .ok (.aload_n 0, 1) := by decide +kernel
theorem d_Lw_law_238 : decode b_Lw_law 238 = .ok (.iload_n 3, 1) := by decide +kernel
theorem d_Lw_law_239 : decode b_Lw_law 239 = .ok (.iconst 1, 1) := by decide +kernel
theorem d_Lw_law_240 : decode b_Lw_law 240 = .ok (.iadd, 1) := by decide +kernel
theorem d_Lw_law_241 : decode b_Lw_law 241 = .ok (.iaload, 1) := by decide +kernel
theorem d_Lw_law_242 : decode b_Lw_law 242 = .ok (.invokevirtual 39, 3) := by decide +kernel
theorem d_Lw_law_245 : decode b_Lw_law 245 = .ok (.if_icmp .eq (290), 3) := by decide +kernel
theorem d_Lw_law_248 : decode b_Lw_law 248 = .ok (.iconst 0, 1) := by decide +kernel
theorem d_Lw_law_249 : decode b_Lw_law 249 = .ok (.ireturn, 1) := by decide +kernel
theorem d_Lw_law_250 : decode b_Lw_law 250 = .ok (.aload_n 1, 1) := by decide +kernel
theorem d_Lw_law_251 : decode b_Lw_law 251 = .ok (.invokevirtual 40, 3) := by decide +kernel
theorem d_Lw_law_254 : decode b_Lw_law 254 = .ok (.aload_n 2, 1) := by decide +kernel
theorem d_Lw_law_255 : decode b_Lw_law 255 = .ok (.invokevirtual 44, 3) := by decide +kernel
theorem d_Lw_law_258 : decode b_Lw_law 258 = .ok (.if_icmp .eq (277), 3) := by decide +kernel
theorem d_Lw_law_261 : decode b_Lw_law 261 = .ok (.iconst 0, 1) := by decide +kernel
theorem d_Lw_law_262 : decode b_Lw_law 262 = .ok (.ireturn, 1) := by decide +kernel
theorem d_Lw_law_263 : decode b_Lw_law 263 = .ok (.aload_n 1, 1) := by decide +kernel
theorem d_Lw_law_264 : decode b_Lw_law 264 = .ok (.aload_n 0, 1) := by decide +kernel
theorem d_Lw_law_265 : decode b_Lw_law 265 = .ok (.iload_n 3, 1) := by decide +kernel
theorem d_Lw_law_266 : decode b_Lw_law 266 = .ok (.iconst 1, 1) := by decide +kernel
theorem d_Lw_law_267 : decode b_Lw_law 267 = .ok (.iadd, 1) := by decide +kernel
theorem d_Lw_law_268 : decode b_Lw_law 268 = .ok (.iaload, 1) := by decide +kernel
theorem d_Lw_law_269 : decode b_Lw_law 269 = .ok (.invokevirtual 45, 3) := by decide +kernel
theorem d_Lw_law_272 : decode b_Lw_law 272 = .ok (.aload_n 2, 1) := by decide +kernel
theorem d_Lw_law_273 : decode b_Lw_law 273 = .ok (.aload_n 0, 1) := by decide +kernel
theorem d_Lw_law_274 : decode b_Lw_law 274 = .ok (.iload_n 3, 1) := by decide +kernel
theorem d_Lw_law_275 : decode b_Lw_law 275 = .ok (.iconst 1, 1) := by decide +kernel
theorem d_Lw_law_276 : decode b_Lw_law 276 = .ok (.iadd, 1) := by decide +kernel
theorem d_Lw_law_277 : decode b_Lw_law 277 = .ok (.iaload, 1) := by decide +kernel
theorem d_Lw_law_278 : decode b_Lw_law 278 = .ok (.invokevirtual 48, 3) := by decide +kernel
theorem d_Lw_law_281 : decode b_Lw_law 281 = .ok (.if_icmp .eq (254), 3) := by decide +kernel
theorem d_Lw_law_284 : decode b_Lw_law 284 = .ok (.iconst 0, 1) := by decide +kernel
theorem d_Lw_law_285 : decode b_Lw_law 285 = .ok (.ireturn, 1) := by decide +kernel
theorem d_Lw_law_286 : decode b_Lw_law 286 = .ok (.aload_n 1, 1) := by decide +kernel
theorem d_Lw_law_287 : decode b_Lw_law 287 = .ok (.aload_n 0, 1) := by decide +kernel
theorem d_Lw_law_288 : decode b_Lw_law 288 = .ok (.iload_n 3, 1) := by decide +kernel
theorem d_Lw_law_289 : decode b_Lw_law 289 = .ok (.iconst 1, 1) := by decide +kernel
theorem d_Lw_law_290 : decode b_Lw_law 290 = .ok (.iadd, 1) := by decide +kernel
theorem d_Lw_law_291 : decode b_Lw_law 291 = .ok (.iaload, 1) := by decide +kernel
theorem d_Lw_law_292 : decode b_Lw_law 292 = .ok (.invokevirtual 49, 3) := by decide +kernel
theorem d_Lw_law_295 : decode b_Lw_law 295 = .ok (.aload_n 2, 1) := by decide +kernel
theorem d_Lw_law_296 : decode b_Lw_law 296 = .ok (.aload_n 0, 1) := by decide +kernel
theorem d_Lw_law_297 : decode b_Lw_law 297 = .ok (.iload_n 3, 1) := by decide +kernel
theorem d_Lw_law_298 : decode b_Lw_law 298 = .ok (.iconst 1, 1) := by decide +kernel
theorem d_Lw_law_299 : decode b_Lw_law 299 = .ok (.iadd, 1) := by decide +kernel
theorem d_Lw_law_300 : decode b_Lw_law 300 = .ok (.iaload, 1) := by decide +kernel
theorem d_Lw_law_301 : decode b_Lw_law 301 = .ok (.invokevirtual 53, 3) := by decide +kernel
theorem d_Lw_law_304 : decode b_Lw_law 304 = .ok (.if_icmp .eq (231), 3) := by decide +kernel
theorem d_Lw_law_307 : decode b_Lw_law 307 = .ok (.iconst 0, 1) := by decide +kernel
theorem d_Lw_law_308 : decode b_Lw_law 308 = .ok (.ireturn, 1) := by decide +kernel
theorem d_Lw_law_309 : decode b_Lw_law 309 = .ok (.aload_n 1, 1) := by decide +kernel
theorem d_Lw_law_310 : decode b_Lw_law 310 = .ok (.aload_n 0, 1) := by decide +kernel
theorem d_Lw_law_311 : decode b_Lw_law 311 = .ok (.iload_n 3, 1) := by decide +kernel
theorem d_Lw_law_312 : decode b_Lw_law 312 = .ok (.iconst 1, 1) := by decide +kernel
theorem d_Lw_law_313 : decode b_Lw_law 313 = .ok (.iadd, 1) := by decide +kernel
theorem d_Lw_law_314 : decode b_Lw_law 314 = .ok (.iaload, 1) := by decide +kernel
theorem d_Lw_law_315 : decode b_Lw_law 315 = .ok (.invokevirtual 54, 3) := by decide +kernel
theorem d_Lw_law_318 : decode b_Lw_law 318 = .ok (.aload_n 2, 1) := by decide +kernel
theorem d_Lw_law_319 : decode b_Lw_law 319 = .ok (.aload_n 0, 1) := by decide +kernel
theorem d_Lw_law_320 : decode b_Lw_law 320 = .ok (.iload_n 3, 1) := by decide +kernel
theorem d_Lw_law_321 : decode b_Lw_law 321 = .ok (.iconst 1, 1) := by decide +kernel
theorem d_Lw_law_322 : decode b_Lw_law 322 = .ok (.iadd, 1) := by decide +kernel
theorem d_Lw_law_323 : decode b_Lw_law 323 = .ok (.iaload, 1) := by decide +kernel
theorem d_Lw_law_324 : decode b_Lw_law 324 = .ok (.invokevirtual 57, 3) := by decide +kernel
theorem d_Lw_law_327 : decode b_Lw_law 327 = .ok (.if_icmp .eq (208), 3) := by decide +kernel
theorem d_Lw_law_330 : decode b_Lw_law 330 = .ok (.iconst 0, 1) := by decide +kernel
theorem d_Lw_law_331 : decode b_Lw_law 331 = .ok (.ireturn, 1) := by decide +kernel
theorem d_Lw_law_332 : decode b_Lw_law 332 = .ok (.aload_n 1, 1) := by decide +kernel
theorem d_Lw_law_333 : decode b_Lw_law 333 = .ok (.aload_n 0, 1) := by decide +kernel
theorem d_Lw_law_334 : decode b_Lw_law 334 = .ok (.iload_n 3, 1) := by decide +kernel
theorem d_Lw_law_335 : decode b_Lw_law 335 = .ok (.iconst 1, 1) := by decide +kernel
theorem d_Lw_law_336 : decode b_Lw_law 336 = .ok (.iadd, 1) := by decide +kernel
theorem d_Lw_law_337 : decode b_Lw_law 337 = .ok (.iaload, 1) := by decide +kernel
theorem d_Lw_law_338 : decode b_Lw_law 338 = .ok (.invokevirtual 58, 3) := by decide +kernel
theorem d_Lw_law_341 : decode b_Lw_law 341 = .ok (.aload_n 2, 1) := by decide +kernel
theorem d_Lw_law_342 : decode b_Lw_law 342 = .ok (.aload_n 0, 1) := by decide +kernel
theorem d_Lw_law_343 : decode b_Lw_law 343 = .ok (.iload_n 3, 1) := by decide +kernel
theorem d_Lw_law_344 : decode b_Lw_law 344 = .ok (.iconst 1, 1) := by decide +kernel
theorem d_Lw_law_345 : decode b_Lw_law 345 = .ok (.iadd, 1) := by decide +kernel
theorem d_Lw_law_346 : decode b_Lw_law 346 = .ok (.iaload, 1) := by decide +kernel
theorem d_Lw_law_347 : decode b_Lw_law 347 = .ok (.invokevirtual 61, 3) := by decide +kernel
theorem d_Lw_law_350 : decode b_Lw_law 350 = .ok (.if_icmp .eq (185), 3) := by decide +kernel
theorem d_Lw_law_353 : decode b_Lw_law 353 = .ok (.iconst 0, 1) := by decide +kernel
theorem d_Lw_law_354 : decode b_Lw_law 354 = .ok (.ireturn, 1) := by decide +kernel
theorem d_Lw_law_355 : decode b_Lw_law 355 = .ok (.aload_n 1, 1) := by decide +kernel
theorem d_Lw_law_356 : decode b_Lw_law 356 = .ok (.aload_n 0, 1) := by decide +kernel
theorem d_Lw_law_357 : decode b_Lw_law 357 = .ok (.iload_n 3, 1) := by decide +kernel
theorem d_Lw_law_358 : decode b_Lw_law 358 = .ok (.iconst 1, 1) := by decide +kernel
theorem d_Lw_law_359 : decode b_Lw_law 359 = .ok (.iadd, 1) := by decide +kernel
theorem d_Lw_law_360 : decode b_Lw_law 360 = .ok (.iaload, 1) := by decide +kernel
theorem d_Lw_law_361 : decode b_Lw_law 361 = .ok (.ifCond .eq (7), 3) := by decide +kernel
theorem d_Lw_law_364 : decode b_Lw_law 364 = .ok (.iconst 1, 1) := by decide +kernel
theorem d_Lw_law_365 : decode b_Lw_law 365 = .ok (.goto (4), 3) := by decide +kernel
theorem d_Lw_law_368 : decode b_Lw_law 368 = .ok (.iconst 0, 1) := by decide +kernel
theorem d_Lw_law_369 : decode b_Lw_law 369 = .ok (.invokevirtual 62, 3) := by decide +kernel
theorem d_Lw_law_372 : decode b_Lw_law 372 = .ok (.aload_n 2, 1) := by decide +kernel
theorem d_Lw_law_373 : decode b_Lw_law 373 = .ok (.aload_n 0, 1) := by decide +kernel
theorem d_Lw_law_374 : decode b_Lw_law 374 = .ok (.iload_n 3, 1) := by decide +kernel
theorem d_Lw_law_375 : decode b_Lw_law 375 = .ok (.iconst 1, 1) := by decide +kernel
theorem d_Lw_law_376 : decode b_Lw_law 376 = .ok (.iadd, 1) := by decide +kernel
theorem d_Lw_law_377 : decode b_Lw_law 377 = .ok (.iaload, 1) := by decide +kernel
theorem d_Lw_law_378 : decode b_Lw_law 378 = .ok (.ifCond .eq (7), 3) := by decide +kernel
theorem d_Lw_law_381 : decode b_Lw_law 381 = .ok (.iconst 1, 1) := by decide +kernel
theorem d_Lw_law_382 : decode b_Lw_law 382 = .ok (.goto (4), 3) := by decide +kernel
theorem d_Lw_law_385 : decode b_Lw_law 385 = .ok (.iconst 0, 1) := by decide +kernel
theorem d_Lw_law_386 : decode b_Lw_law 386 = .ok (.invokevirtual 66, 3) := by decide +kernel
theorem d_Lw_law_389 : decode b_Lw_law 389 = .ok (.if_icmp .eq (146), 3) := by decide +kernel
theorem d_Lw_law_392 : decode b_Lw_law 392 = .ok (.iconst 0, 1) := by decide +kernel
theorem d_Lw_law_393 : decode b_Lw_law 393 = .ok (.ireturn, 1) := by decide +kernel
theorem d_Lw_law_394 : decode b_Lw_law 394 = .ok (.aload_n 1, 1) := by decide +kernel
theorem d_Lw_law_395 : decode b_Lw_law 395 = .ok (.invokevirtual 67, 3) := by decide +kernel
theorem d_Lw_law_398 : decode b_Lw_law 398 = .ok (.aload_n 2, 1) := by decide +kernel
theorem d_Lw_law_399 : decode b_Lw_law 399 = .ok (.invokevirtual 70, 3) := by decide +kernel
theorem d_Lw_law_402 : decode b_Lw_law 402 = .ok (.if_icmp .eq (133), 3) := by decide +kernel
theorem d_Lw_law_405 : decode b_Lw_law 405 = .ok (.iconst 0, 1) := by decide +kernel
theorem d_Lw_law_406 : decode b_Lw_law 406 = .ok (.ireturn, 1) := by decide +kernel
theorem d_Lw_law_407 : decode b_Lw_law 407 = .ok (.aload_n 1, 1) := by decide +kernel
theorem d_Lw_law_408 : decode b_Lw_law 408 = .ok (.invokevirtual 71, 3) := by decide +kernel
theorem d_Lw_law_411 : decode b_Lw_law 411 = .ok (.aload_n 2, 1) := by decide +kernel
theorem d_Lw_law_412 : decode b_Lw_law 412 = .ok (.invokevirtual 74, 3) := by decide +kernel
theorem d_Lw_law_415 : decode b_Lw_law 415 = .ok (.if_icmp .eq (120), 3) := by decide +kernel
theorem d_Lw_law_418 : decode b_Lw_law 418 = .ok (.iconst 0, 1) := by decide +kernel
theorem d_Lw_law_419 : decode b_Lw_law 419 = .ok (.ireturn, 1) := by decide +kernel
theorem d_Lw_law_420 : decode b_Lw_law 420 = .ok (.aload_n 1, 1) := by decide +kernel
theorem d_Lw_law_421 : decode b_Lw_law 421 = .ok (.aload_n 0, 1) := by decide +kernel
theorem d_Lw_law_422 : decode b_Lw_law 422 = .ok (.iload_n 3, 1) := by decide +kernel
theorem d_Lw_law_423 : decode b_Lw_law 423 = .ok (.iconst 1, 1) := by decide +kernel
theorem d_Lw_law_424 : decode b_Lw_law 424 = .ok (.iadd, 1) := by decide +kernel
theorem d_Lw_law_425 : decode b_Lw_law 425 = .ok (.iaload, 1) := by decide +kernel
theorem d_Lw_law_426 : decode b_Lw_law 426 = .ok (.invokevirtual 75, 3) := by decide +kernel
theorem d_Lw_law_429 : decode b_Lw_law 429 = .ok (.aload_n 2, 1) := by decide +kernel
theorem d_Lw_law_430 : decode b_Lw_law 430 = .ok (.aload_n 0, 1) := by decide +kernel
theorem d_Lw_law_431 : decode b_Lw_law 431 = .ok (.iload_n 3, 1) := by decide +kernel
theorem d_Lw_law_432 : decode b_Lw_law 432 = .ok (.iconst 1, 1) := by decide +kernel
theorem d_Lw_law_433 : decode b_Lw_law 433 = .ok (.iadd, 1) := by decide +kernel
theorem d_Lw_law_434 : decode b_Lw_law 434 = .ok (.iaload, 1) := by decide +kernel
theorem d_Lw_law_435 : decode b_Lw_law 435 = .ok (.invokevirtual 78, 3) := by decide +kernel
theorem d_Lw_law_438 : decode b_Lw_law 438 = .ok (.if_icmp .eq (97), 3) := by decide +kernel
theorem d_Lw_law_441 : decode b_Lw_law 441 = .ok (.iconst 0, 1) := by decide +kernel
theorem d_Lw_law_442 : decode b_Lw_law 442 = .ok (.ireturn, 1) := by decide +kernel
theorem d_Lw_law_443 : decode b_Lw_law 443 = .ok (.aload_n 1, 1) := by decide +kernel
theorem d_Lw_law_444 : decode b_Lw_law 444 = .ok (.aload_n 0, 1) := by decide +kernel
theorem d_Lw_law_445 : decode b_Lw_law 445 = .ok (.iload_n 3, 1) := by decide +kernel
theorem d_Lw_law_446 : decode b_Lw_law 446 = .ok (.iconst 1, 1) := by decide +kernel
theorem d_Lw_law_447 : decode b_Lw_law 447 = .ok (.iadd, 1) := by decide +kernel
theorem d_Lw_law_448 : decode b_Lw_law 448 = .ok (.iaload, 1) := by decide +kernel
theorem d_Lw_law_449 : decode b_Lw_law 449 = .ok (.invokevirtual 79, 3) := by decide +kernel
theorem d_Lw_law_452 : decode b_Lw_law 452 = .ok (.aload_n 2, 1) := by decide +kernel
theorem d_Lw_law_453 : decode b_Lw_law 453 = .ok (.aload_n 0, 1) := by decide +kernel
theorem d_Lw_law_454 : decode b_Lw_law 454 = .ok (.iload_n 3, 1) := by decide +kernel
theorem d_Lw_law_455 : decode b_Lw_law 455 = .ok (.iconst 1, 1) := by decide +kernel
theorem d_Lw_law_456 : decode b_Lw_law 456 = .ok (.iadd, 1) := by decide +kernel
theorem d_Lw_law_457 : decode b_Lw_law 457 = .ok (.iaload, 1) := by decide +kernel
theorem d_Lw_law_458 : decode b_Lw_law 458 = .ok (.invokevirtual 82, 3) := by decide +kernel
theorem d_Lw_law_461 : decode b_Lw_law 461 = .ok (.if_icmp .eq (74), 3) := by decide +kernel
theorem d_Lw_law_464 : decode b_Lw_law 464 = .ok (.iconst 0, 1) := by decide +kernel
theorem d_Lw_law_465 : decode b_Lw_law 465 = .ok (.ireturn, 1) := by decide +kernel
theorem d_Lw_law_466 : decode b_Lw_law 466 = .ok (.aload_n 1, 1) := by decide +kernel
theorem d_Lw_law_467 : decode b_Lw_law 467 = .ok (.invokevirtual 83, 3) := by decide +kernel
theorem d_Lw_law_470 : decode b_Lw_law 470 = .ok (.aload_n 2, 1) := by decide +kernel
theorem d_Lw_law_471 : decode b_Lw_law 471 = .ok (.invokevirtual 86, 3) := by decide +kernel
theorem d_Lw_law_474 : decode b_Lw_law 474 = .ok (.if_icmp .eq (61), 3) := by decide +kernel
theorem d_Lw_law_477 : decode b_Lw_law 477 = .ok (.iconst 0, 1) := by decide +kernel
theorem d_Lw_law_478 : decode b_Lw_law 478 = .ok (.ireturn, 1) := by decide +kernel
theorem d_Lw_law_479 : decode b_Lw_law 479 = .ok (.aload_n 1, 1) := by decide +kernel
theorem d_Lw_law_480 : decode b_Lw_law 480 = .ok (.aload_n 0, 1) := by decide +kernel
theorem d_Lw_law_481 : decode b_Lw_law 481 = .ok (.iload_n 3, 1) := by decide +kernel
theorem d_Lw_law_482 : decode b_Lw_law 482 = .ok (.iconst 1, 1) := by decide +kernel
theorem d_Lw_law_483 : decode b_Lw_law 483 = .ok (.iadd, 1) := by decide +kernel
theorem d_Lw_law_484 : decode b_Lw_law 484 = .ok (.iaload, 1) := by decide +kernel
theorem d_Lw_law_485 : decode b_Lw_law 485 = .ok (.invokevirtual 87, 3) := by decide +kernel
theorem d_Lw_law_488 : decode b_Lw_law 488 = .ok (.aload_n 2, 1) := by decide +kernel
theorem d_Lw_law_489 : decode b_Lw_law 489 = .ok (.aload_n 0, 1) := by decide +kernel
theorem d_Lw_law_490 : decode b_Lw_law 490 = .ok (.iload_n 3, 1) := by decide +kernel
theorem d_Lw_law_491 : decode b_Lw_law 491 = .ok (.iconst 1, 1) := by decide +kernel
theorem d_Lw_law_492 : decode b_Lw_law 492 = .ok (.iadd, 1) := by decide +kernel
theorem d_Lw_law_493 : decode b_Lw_law 493 = .ok (.iaload, 1) := by decide +kernel
theorem d_Lw_law_494 : decode b_Lw_law 494 = .ok (.invokevirtual 90, 3) := by decide +kernel
theorem d_Lw_law_497 : decode b_Lw_law 497 = .ok (.if_icmp .eq (38), 3) := by decide +kernel
theorem d_Lw_law_500 : decode b_Lw_law 500 = .ok (.iconst 0, 1) := by decide +kernel
theorem d_Lw_law_501 : decode b_Lw_law 501 = .ok (.ireturn, 1) := by decide +kernel
theorem d_Lw_law_502 : decode b_Lw_law 502 = .ok (.aload_n 1, 1) := by decide +kernel
theorem d_Lw_law_503 : decode b_Lw_law 503 = .ok (.aload_n 0, 1) := by decide +kernel
theorem d_Lw_law_504 : decode b_Lw_law 504 = .ok (.iload_n 3, 1) := by decide +kernel
theorem d_Lw_law_505 : decode b_Lw_law 505 = .ok (.iconst 1, 1) := by decide +kernel
theorem d_Lw_law_506 : decode b_Lw_law 506 = .ok (.iadd, 1) := by decide +kernel
theorem d_Lw_law_507 : decode b_Lw_law 507 = .ok (.iaload, 1) := by decide +kernel
theorem d_Lw_law_508 : decode b_Lw_law 508 = .ok (.aload_n 0, 1) := by decide +kernel
theorem d_Lw_law_509 : decode b_Lw_law 509 = .ok (.iload_n 3, 1) := by decide +kernel
theorem d_Lw_law_510 : decode b_Lw_law 510 = .ok (.iconst 2, 1) := by decide +kernel
theorem d_Lw_law_511 : decode b_Lw_law 511 = .ok (.iadd, 1) := by decide +kernel
theorem d_Lw_law_512 : decode b_Lw_law 512 = .ok (.iaload, 1) := by decide +kernel
theorem d_Lw_law_513 : decode b_Lw_law 513 = .ok (.invokevirtual 91, 3) := by decide +kernel
theorem d_Lw_law_516 : decode b_Lw_law 516 = .ok (.aload_n 2, 1) := by decide +kernel
theorem d_Lw_law_517 : decode b_Lw_law 517 = .ok (.aload_n 0, 1) := by decide +kernel
theorem d_Lw_law_518 : decode b_Lw_law 518 = .ok (.iload_n 3, 1) := by decide +kernel
theorem d_Lw_law_519 : decode b_Lw_law 519 = .ok (.iconst 1, 1) := by decide +kernel
theorem d_Lw_law_520 : decode b_Lw_law 520 = .ok (.iadd, 1) := by decide +kernel
theorem d_Lw_law_521 : decode b_Lw_law 521 = .ok (.iaload, 1) := by decide +kernel
theorem d_Lw_law_522 : decode b_Lw_law 522 = .ok (.aload_n 0, 1) := by decide +kernel
theorem d_Lw_law_523 : decode b_Lw_law 523 = .ok (.iload_n 3, 1) := by decide +kernel
theorem d_Lw_law_524 : decode b_Lw_law 524 = .ok (.iconst 2, 1) := by decide +kernel
theorem d_Lw_law_525 : decode b_Lw_law 525 = .ok (.iadd, 1) := by decide +kernel
theorem d_Lw_law_526 : decode b_Lw_law 526 = .ok (.iaload, 1) := by decide +kernel
theorem d_Lw_law_527 : decode b_Lw_law 527 = .ok (.invokevirtual 95, 3) := by decide +kernel
theorem d_Lw_law_530 : decode b_Lw_law 530 = .ok (.if_icmp .eq (5), 3) := by decide +kernel
theorem d_Lw_law_533 : decode b_Lw_law 533 = .ok (.iconst 0, 1) := by decide +kernel
theorem d_Lw_law_534 : decode b_Lw_law 534 = .ok (.ireturn, 1) := by decide +kernel
theorem d_Lw_law_535 : decode b_Lw_law 535 = .ok (.iinc 3 (4), 3) := by decide +kernel
theorem d_Lw_law_538 : decode b_Lw_law 538 = .ok (.goto (-510), 3) := by decide +kernel
theorem d_Lw_law_541 : decode b_Lw_law 541 = .ok (.iconst 1, 1) := by decide +kernel
theorem d_Lw_law_542 : decode b_Lw_law 542 = .ok (.ireturn, 1) := by decide +kernel
