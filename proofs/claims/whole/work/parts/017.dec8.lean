theorem d_ZoneNodesModel_refusal_41 : decode b_ZoneNodesModel_refusal 41 = .ok (.lsub, 1) := by decide +kernel
theorem d_ZoneNodesModel_refusal_42 : decode b_ZoneNodesModel_refusal 42 = .ok (.lstore 4, 2) := by decide +kernel
theorem d_ZoneNodesModel_refusal_44 : decode b_ZoneNodesModel_refusal 44 = .ok (.lload 4, 2) := by decide +kernel
theorem d_ZoneNodesModel_refusal_46 : decode b_ZoneNodesModel_refusal 46 = .ok (.ldc2_w 130, 3) := by decide +kernel
theorem d_ZoneNodesModel_refusal_49 : decode b_ZoneNodesModel_refusal 49 = .ok (.lcmp, 1) := by decide +kernel
theorem d_ZoneNodesModel_refusal_50 : decode b_ZoneNodesModel_refusal 50 = .ok (.ifCond .gt 12, 3) := by decide +kernel
theorem d_ZoneNodesModel_refusal_53 : decode b_ZoneNodesModel_refusal 53 = .ok (.lload 4, 2) := by decide +kernel
theorem d_ZoneNodesModel_refusal_55 : decode b_ZoneNodesModel_refusal 55 = .ok (.ldc2_w 132, 3) := by decide +kernel
theorem d_ZoneNodesModel_refusal_58 : decode b_ZoneNodesModel_refusal 58 = .ok (.lcmp, 1) := by decide +kernel
theorem d_ZoneNodesModel_refusal_59 : decode b_ZoneNodesModel_refusal 59 = .ok (.ifCond .ge 6, 3) := by decide +kernel
theorem d_ZoneNodesModel_refusal_62 : decode b_ZoneNodesModel_refusal 62 = .ok (.bipush 18, 2) := by decide +kernel
theorem d_ZoneNodesModel_refusal_64 : decode b_ZoneNodesModel_refusal 64 = .ok (.ireturn, 1) := by decide +kernel
theorem d_ZoneNodesModel_refusal_65 : decode b_ZoneNodesModel_refusal 65 = .ok (.iconst 0, 1) := by decide +kernel
theorem d_ZoneNodesModel_refusal_66 : decode b_ZoneNodesModel_refusal 66 = .ok (.istore 6, 2) := by decide +kernel
theorem d_ZoneNodesModel_refusal_68 : decode b_ZoneNodesModel_refusal 68 = .ok (.iload 6, 2) := by decide +kernel
theorem d_ZoneNodesModel_refusal_70 : decode b_ZoneNodesModel_refusal 70 = .ok (.aload_n 0, 1) := by decide +kernel
theorem d_ZoneNodesModel_refusal_71 : decode b_ZoneNodesModel_refusal 71 = .ok (.getfield 105, 3) := by decide +kernel
theorem d_ZoneNodesModel_refusal_74 : decode b_ZoneNodesModel_refusal 74 = .ok (.if_icmp .ge 63, 3) := by decide +kernel
theorem d_ZoneNodesModel_refusal_77 : decode b_ZoneNodesModel_refusal 77 = .ok (.aload_n 0, 1) := by decide +kernel
theorem d_ZoneNodesModel_refusal_78 : decode b_ZoneNodesModel_refusal 78 = .ok (.getfield 41, 3) := by decide +kernel
theorem d_ZoneNodesModel_refusal_81 : decode b_ZoneNodesModel_refusal 81 = .ok (.iconst 4, 1) := by decide +kernel
theorem d_ZoneNodesModel_refusal_82 : decode b_ZoneNodesModel_refusal 82 = .ok (.iload 6, 2) := by decide +kernel
theorem d_ZoneNodesModel_refusal_84 : decode b_ZoneNodesModel_refusal 84 = .ok (.imul, 1) := by decide +kernel
theorem d_ZoneNodesModel_refusal_85 : decode b_ZoneNodesModel_refusal 85 = .ok (.iaload, 1) := by decide +kernel
theorem d_ZoneNodesModel_refusal_86 : decode b_ZoneNodesModel_refusal 86 = .ok (.istore 7, 2) := by decide +kernel
theorem d_ZoneNodesModel_refusal_88 : decode b_ZoneNodesModel_refusal 88 = .ok (.aload_n 0, 1) := by decide +kernel
theorem d_ZoneNodesModel_refusal_89 : decode b_ZoneNodesModel_refusal 89 = .ok (.iload 6, 2) := by decide +kernel
theorem d_ZoneNodesModel_refusal_91 : decode b_ZoneNodesModel_refusal 91 = .ok (.invokevirtual 134, 3) := by decide +kernel
theorem d_ZoneNodesModel_refusal_94 : decode b_ZoneNodesModel_refusal 94 = .ok (.ifCond .ne 37, 3) := by decide +kernel
theorem d_ZoneNodesModel_refusal_97 : decode b_ZoneNodesModel_refusal 97 = .ok (.iload 7, 2) := by decide +kernel
theorem d_ZoneNodesModel_refusal_99 : decode b_ZoneNodesModel_refusal 99 = .ok (.ifCond .ne 7, 3) := by decide +kernel
theorem d_ZoneNodesModel_refusal_102 : decode b_ZoneNodesModel_refusal 102 = .ok (.iconst 3, 1) := by decide +kernel
theorem d_ZoneNodesModel_refusal_103 : decode b_ZoneNodesModel_refusal 103 = .ok (.goto 27, 3) := by decide +kernel
theorem d_ZoneNodesModel_refusal_106 : decode b_ZoneNodesModel_refusal 106 = .ok (.iload 7, 2) := by decide +kernel
theorem d_ZoneNodesModel_refusal_108 : decode b_ZoneNodesModel_refusal 108 = .ok (.iconst 1, 1) := by decide +kernel
theorem d_ZoneNodesModel_refusal_109 : decode b_ZoneNodesModel_refusal 109 = .ok (.if_icmp .ne 8, 3) := by decide +kernel
theorem d_ZoneNodesModel_refusal_112 : decode b_ZoneNodesModel_refusal 112 = .ok (.bipush 6, 2) := by decide +kernel
theorem d_ZoneNodesModel_refusal_114 : decode b_ZoneNodesModel_refusal 114 = .ok (.goto 16, 3) := by decide +kernel
theorem d_ZoneNodesModel_refusal_117 : decode b_ZoneNodesModel_refusal 117 = .ok (.iload 7, 2) := by decide +kernel
theorem d_ZoneNodesModel_refusal_119 : decode b_ZoneNodesModel_refusal 119 = .ok (.iconst 2, 1) := by decide +kernel
theorem d_ZoneNodesModel_refusal_120 : decode b_ZoneNodesModel_refusal 120 = .ok (.if_icmp .ne 8, 3) := by decide +kernel
theorem d_ZoneNodesModel_refusal_123 : decode b_ZoneNodesModel_refusal 123 = .ok (.bipush 8, 2) := by decide +kernel
theorem d_ZoneNodesModel_refusal_125 : decode b_ZoneNodesModel_refusal 125 = .ok (.goto 5, 3) := by decide +kernel
theorem d_ZoneNodesModel_refusal_128 : decode b_ZoneNodesModel_refusal 128 = .ok (.bipush 7, 2) := by decide +kernel
theorem d_ZoneNodesModel_refusal_130 : decode b_ZoneNodesModel_refusal 130 = .ok (.ireturn, 1) := by decide +kernel
theorem d_ZoneNodesModel_refusal_131 : decode b_ZoneNodesModel_refusal 131 = .ok (.iinc 6 1, 3) := by decide +kernel
theorem d_ZoneNodesModel_refusal_134 : decode b_ZoneNodesModel_refusal 134 = .ok (.goto (-66), 3) := by decide +kernel
theorem d_ZoneNodesModel_refusal_137 : decode b_ZoneNodesModel_refusal 137 = .ok (.iconst 0, 1) := by decide +kernel
theorem d_ZoneNodesModel_refusal_138 : decode b_ZoneNodesModel_refusal 138 = .ok (.istore 6, 2) := by decide +kernel
theorem d_ZoneNodesModel_refusal_140 : decode b_ZoneNodesModel_refusal 140 = .ok (.iload 6, 2) := by decide +kernel
theorem d_ZoneNodesModel_refusal_142 : decode b_ZoneNodesModel_refusal 142 = .ok (.aload_n 0, 1) := by decide +kernel
theorem d_ZoneNodesModel_refusal_143 : decode b_ZoneNodesModel_refusal 143 = .ok (.getfield 105, 3) := by decide +kernel
theorem d_ZoneNodesModel_refusal_146 : decode b_ZoneNodesModel_refusal 146 = .ok (.if_icmp .ge 34, 3) := by decide +kernel
theorem d_ZoneNodesModel_refusal_149 : decode b_ZoneNodesModel_refusal 149 = .ok (.aload_n 0, 1) := by decide +kernel
theorem d_ZoneNodesModel_refusal_150 : decode b_ZoneNodesModel_refusal 150 = .ok (.getfield 41, 3) := by decide +kernel
theorem d_ZoneNodesModel_refusal_153 : decode b_ZoneNodesModel_refusal 153 = .ok (.iconst 4, 1) := by decide +kernel
theorem d_ZoneNodesModel_refusal_154 : decode b_ZoneNodesModel_refusal 154 = .ok (.iload 6, 2) := by decide +kernel
theorem d_ZoneNodesModel_refusal_156 : decode b_ZoneNodesModel_refusal 156 = .ok (.imul, 1) := by decide +kernel
theorem d_ZoneNodesModel_refusal_157 : decode b_ZoneNodesModel_refusal 157 = .ok (.iaload, 1) := by decide +kernel
theorem d_ZoneNodesModel_refusal_158 : decode b_ZoneNodesModel_refusal 158 = .ok (.iconst 3, 1) := by decide +kernel
theorem d_ZoneNodesModel_refusal_159 : decode b_ZoneNodesModel_refusal 159 = .ok (.if_icmp .ne 15, 3) := by decide +kernel
theorem d_ZoneNodesModel_refusal_162 : decode b_ZoneNodesModel_refusal 162 = .ok (.aload_n 0, 1) := by decide +kernel
theorem d_ZoneNodesModel_refusal_163 : decode b_ZoneNodesModel_refusal 163 = .ok (.iload 6, 2) := by decide +kernel
theorem d_ZoneNodesModel_refusal_165 : decode b_ZoneNodesModel_refusal 165 = .ok (.invokevirtual 138, 3) := by decide +kernel
theorem d_ZoneNodesModel_refusal_168 : decode b_ZoneNodesModel_refusal 168 = .ok (.ifCond .ne 6, 3) := by decide +kernel
theorem d_ZoneNodesModel_refusal_171 : decode b_ZoneNodesModel_refusal 171 = .ok (.bipush 8, 2) := by decide +kernel
theorem d_ZoneNodesModel_refusal_173 : decode b_ZoneNodesModel_refusal 173 = .ok (.ireturn, 1) := by decide +kernel
theorem d_ZoneNodesModel_refusal_174 : decode b_ZoneNodesModel_refusal 174 = .ok (.iinc 6 1, 3) := by decide +kernel
theorem d_ZoneNodesModel_refusal_177 : decode b_ZoneNodesModel_refusal 177 = .ok (.goto (-37), 3) := by decide +kernel
theorem d_ZoneNodesModel_refusal_180 : decode b_ZoneNodesModel_refusal 180 = .ok (.iconst 0, 1) := by decide +kernel
theorem d_ZoneNodesModel_refusal_181 : decode b_ZoneNodesModel_refusal 181 = .ok (.ireturn, 1) := by decide +kernel
theorem d_ZoneNodesModel_write_0 : decode b_ZoneNodesModel_write 0 = .ok (.aload_n 0, 1) := by decide +kernel
theorem d_ZoneNodesModel_write_1 : decode b_ZoneNodesModel_write 1 = .ok (.getfield 159, 3) := by decide +kernel
theorem d_ZoneNodesModel_write_4 : decode b_ZoneNodesModel_write 4 = .ok (.iconst 1, 1) := by decide +kernel
theorem d_ZoneNodesModel_write_5 : decode b_ZoneNodesModel_write 5 = .ok (.if_icmp .eq 116, 3) := by decide +kernel
theorem d_ZoneNodesModel_write_8 : decode b_ZoneNodesModel_write 8 = .ok (.aload_n 0, 1) := by decide +kernel
theorem d_ZoneNodesModel_write_9 : decode b_ZoneNodesModel_write 9 = .ok (.getfield 44, 3) := by decide +kernel
theorem d_ZoneNodesModel_write_12 : decode b_ZoneNodesModel_write 12 = .ok (.aload_n 0, 1) := by decide +kernel
theorem d_ZoneNodesModel_write_13 : decode b_ZoneNodesModel_write 13 = .ok (.getfield 162, 3) := by decide +kernel
theorem d_ZoneNodesModel_write_16 : decode b_ZoneNodesModel_write 16 = .ok (.aload_n 0, 1) := by decide +kernel
theorem d_ZoneNodesModel_write_17 : decode b_ZoneNodesModel_write 17 = .ok (.getfield 16, 3) := by decide +kernel
theorem d_ZoneNodesModel_write_20 : decode b_ZoneNodesModel_write 20 = .ok (.iconst 0, 1) := by decide +kernel
theorem d_ZoneNodesModel_write_21 : decode b_ZoneNodesModel_write 21 = .ok (.iaload, 1) := by decide +kernel
theorem d_ZoneNodesModel_write_22 : decode b_ZoneNodesModel_write 22 = .ok (.iastore, 1) := by decide +kernel
theorem d_ZoneNodesModel_write_23 : decode b_ZoneNodesModel_write 23 = .ok (.aload_n 0, 1) := by decide +kernel
theorem d_ZoneNodesModel_write_24 : decode b_ZoneNodesModel_write 24 = .ok (.getfield 47, 3) := by decide +kernel
theorem d_ZoneNodesModel_write_27 : decode b_ZoneNodesModel_write 27 = .ok (.aload_n 0, 1) := by decide +kernel
theorem d_ZoneNodesModel_write_28 : decode b_ZoneNodesModel_write 28 = .ok (.getfield 162, 3) := by decide +kernel
theorem d_ZoneNodesModel_write_31 : decode b_ZoneNodesModel_write 31 = .ok (.iconst 0, 1) := by decide +kernel
theorem d_ZoneNodesModel_write_32 : decode b_ZoneNodesModel_write 32 = .ok (.bastore, 1) := by decide +kernel
theorem d_ZoneNodesModel_write_33 : decode b_ZoneNodesModel_write 33 = .ok (.aload_n 0, 1) := by decide +kernel
theorem d_ZoneNodesModel_write_34 : decode b_ZoneNodesModel_write 34 = .ok (.getfield 53, 3) := by decide +kernel
theorem d_ZoneNodesModel_write_37 : decode b_ZoneNodesModel_write 37 = .ok (.aload_n 0, 1) := by decide +kernel
theorem d_ZoneNodesModel_write_38 : decode b_ZoneNodesModel_write 38 = .ok (.getfield 162, 3) := by decide +kernel
theorem d_ZoneNodesModel_write_41 : decode b_ZoneNodesModel_write 41 = .ok (.iconst 0, 1) := by decide +kernel
theorem d_ZoneNodesModel_write_42 : decode b_ZoneNodesModel_write 42 = .ok (.iastore, 1) := by decide +kernel
theorem d_ZoneNodesModel_write_43 : decode b_ZoneNodesModel_write 43 = .ok (.iconst 0, 1) := by decide +kernel
theorem d_ZoneNodesModel_write_44 : decode b_ZoneNodesModel_write 44 = .ok (.istore_n 1, 1) := by decide +kernel
theorem d_ZoneNodesModel_write_45 : decode b_ZoneNodesModel_write 45 = .ok (.iload_n 1, 1) := by decide +kernel
theorem d_ZoneNodesModel_write_46 : decode b_ZoneNodesModel_write 46 = .ok (.sipush 256, 3) := by decide +kernel
theorem d_ZoneNodesModel_write_49 : decode b_ZoneNodesModel_write 49 = .ok (.if_icmp .ge 62, 3) := by decide +kernel
theorem d_ZoneNodesModel_write_52 : decode b_ZoneNodesModel_write 52 = .ok (.aload_n 0, 1) := by decide +kernel
theorem d_ZoneNodesModel_write_53 : decode b_ZoneNodesModel_write 53 = .ok (.getfield 50, 3) := by decide +kernel
theorem d_ZoneNodesModel_write_56 : decode b_ZoneNodesModel_write 56 = .ok (.sipush 256, 3) := by decide +kernel
theorem d_ZoneNodesModel_write_59 : decode b_ZoneNodesModel_write 59 = .ok (.aload_n 0, 1) := by decide +kernel
theorem d_ZoneNodesModel_write_60 : decode b_ZoneNodesModel_write 60 = .ok (.getfield 162, 3) := by decide +kernel
theorem d_ZoneNodesModel_write_63 : decode b_ZoneNodesModel_write 63 = .ok (.imul, 1) := by decide +kernel
theorem d_ZoneNodesModel_write_64 : decode b_ZoneNodesModel_write 64 = .ok (.iload_n 1, 1) := by decide +kernel
theorem d_ZoneNodesModel_write_65 : decode b_ZoneNodesModel_write 65 = .ok (.iadd, 1) := by decide +kernel
theorem d_ZoneNodesModel_write_66 : decode b_ZoneNodesModel_write 66 = .ok (.aload_n 0, 1) := by decide +kernel
theorem d_ZoneNodesModel_write_67 : decode b_ZoneNodesModel_write 67 = .ok (.getfield 56, 3) := by decide +kernel
theorem d_ZoneNodesModel_write_70 : decode b_ZoneNodesModel_write 70 = .ok (.iload_n 1, 1) := by decide +kernel
theorem d_ZoneNodesModel_write_71 : decode b_ZoneNodesModel_write 71 = .ok (.baload, 1) := by decide +kernel
theorem d_ZoneNodesModel_write_72 : decode b_ZoneNodesModel_write 72 = .ok (.bastore, 1) := by decide +kernel
theorem d_ZoneNodesModel_write_73 : decode b_ZoneNodesModel_write 73 = .ok (.aload_n 0, 1) := by decide +kernel
theorem d_ZoneNodesModel_write_74 : decode b_ZoneNodesModel_write 74 = .ok (.getfield 53, 3) := by decide +kernel
theorem d_ZoneNodesModel_write_77 : decode b_ZoneNodesModel_write 77 = .ok (.aload_n 0, 1) := by decide +kernel
theorem d_ZoneNodesModel_write_78 : decode b_ZoneNodesModel_write 78 = .ok (.getfield 162, 3) := by decide +kernel
theorem d_ZoneNodesModel_write_81 : decode b_ZoneNodesModel_write 81 = .ok (.dup2, 1) := by decide +kernel
theorem d_ZoneNodesModel_write_82 : decode b_ZoneNodesModel_write 82 = .ok (.iaload, 1) := by decide +kernel
theorem d_ZoneNodesModel_write_83 : decode b_ZoneNodesModel_write 83 = .ok (.aload_n 0, 1) := by decide +kernel
theorem d_ZoneNodesModel_write_84 : decode b_ZoneNodesModel_write 84 = .ok (.getfield 56, 3) := by decide +kernel
theorem d_ZoneNodesModel_write_87 : decode b_ZoneNodesModel_write 87 = .ok (.iload_n 1, 1) := by decide +kernel
theorem d_ZoneNodesModel_write_88 : decode b_ZoneNodesModel_write 88 = .ok (.baload, 1) := by decide +kernel
theorem d_ZoneNodesModel_write_89 : decode b_ZoneNodesModel_write 89 = .ok (.aload_n 0, 1) := by decide +kernel
theorem d_ZoneNodesModel_write_90 : decode b_ZoneNodesModel_write 90 = .ok (.getfield 20, 3) := by decide +kernel
theorem d_ZoneNodesModel_write_93 : decode b_ZoneNodesModel_write 93 = .ok (.iload_n 1, 1) := by decide +kernel
theorem d_ZoneNodesModel_write_94 : decode b_ZoneNodesModel_write 94 = .ok (.baload, 1) := by decide +kernel
theorem d_ZoneNodesModel_write_95 : decode b_ZoneNodesModel_write 95 = .ok (.if_icmp .ne 7, 3) := by decide +kernel
theorem d_ZoneNodesModel_write_98 : decode b_ZoneNodesModel_write 98 = .ok (.iconst 0, 1) := by decide +kernel
theorem d_ZoneNodesModel_write_99 : decode b_ZoneNodesModel_write 99 = .ok (.goto 4, 3) := by decide +kernel
theorem d_ZoneNodesModel_write_102 : decode b_ZoneNodesModel_write 102 = .ok (.iconst 1, 1) := by decide +kernel
theorem d_ZoneNodesModel_write_103 : decode b_ZoneNodesModel_write 103 = .ok (.iadd, 1) := by decide +kernel
theorem d_ZoneNodesModel_write_104 : decode b_ZoneNodesModel_write 104 = .ok (.iastore, 1) := by decide +kernel
theorem d_ZoneNodesModel_write_105 : decode b_ZoneNodesModel_write 105 = .ok (.iinc 1 1, 3) := by decide +kernel
theorem d_ZoneNodesModel_write_108 : decode b_ZoneNodesModel_write 108 = .ok (.goto (-63), 3) := by decide +kernel
theorem d_ZoneNodesModel_write_111 : decode b_ZoneNodesModel_write 111 = .ok (.aload_n 0, 1) := by decide +kernel
theorem d_ZoneNodesModel_write_112 : decode b_ZoneNodesModel_write 112 = .ok (.dup, 1) := by decide +kernel
theorem d_ZoneNodesModel_write_113 : decode b_ZoneNodesModel_write 113 = .ok (.getfield 162, 3) := by decide +kernel
theorem d_ZoneNodesModel_write_116 : decode b_ZoneNodesModel_write 116 = .ok (.iconst 1, 1) := by decide +kernel
theorem d_ZoneNodesModel_write_117 : decode b_ZoneNodesModel_write 117 = .ok (.iadd, 1) := by decide +kernel
theorem d_ZoneNodesModel_write_118 : decode b_ZoneNodesModel_write 118 = .ok (.putfield 162, 3) := by decide +kernel
theorem d_ZoneNodesModel_write_121 : decode b_ZoneNodesModel_write 121 = .ok (.aload_n 0, 1) := by decide +kernel
theorem d_ZoneNodesModel_write_122 : decode b_ZoneNodesModel_write 122 = .ok (.getfield 159, 3) := by decide +kernel
theorem d_ZoneNodesModel_write_125 : decode b_ZoneNodesModel_write 125 = .ok (.iconst 1, 1) := by decide +kernel
theorem d_ZoneNodesModel_write_126 : decode b_ZoneNodesModel_write 126 = .ok (.if_icmp .eq 11, 3) := by decide +kernel
theorem d_ZoneNodesModel_write_129 : decode b_ZoneNodesModel_write 129 = .ok (.aload_n 0, 1) := by decide +kernel
theorem d_ZoneNodesModel_write_130 : decode b_ZoneNodesModel_write 130 = .ok (.getfield 159, 3) := by decide +kernel
theorem d_ZoneNodesModel_write_133 : decode b_ZoneNodesModel_write 133 = .ok (.iconst 2, 1) := by decide +kernel
theorem d_ZoneNodesModel_write_134 : decode b_ZoneNodesModel_write 134 = .ok (.if_icmp .ne 11, 3) := by decide +kernel
theorem d_ZoneNodesModel_write_137 : decode b_ZoneNodesModel_write 137 = .ok (.aload_n 0, 1) := by decide +kernel
theorem d_ZoneNodesModel_write_138 : decode b_ZoneNodesModel_write 138 = .ok (.iconst 0, 1) := by decide +kernel
theorem d_ZoneNodesModel_write_139 : decode b_ZoneNodesModel_write 139 = .ok (.invokevirtual 165, 3) := by decide +kernel
theorem d_ZoneNodesModel_write_142 : decode b_ZoneNodesModel_write 142 = .ok (.pop, 1) := by decide +kernel
theorem d_ZoneNodesModel_write_143 : decode b_ZoneNodesModel_write 143 = .ok (.iconst (-1), 1) := by decide +kernel
theorem d_ZoneNodesModel_write_144 : decode b_ZoneNodesModel_write 144 = .ok (.ireturn, 1) := by decide +kernel
theorem d_ZoneNodesModel_write_145 : decode b_ZoneNodesModel_write 145 = .ok (.aload_n 0, 1) := by decide +kernel
theorem d_ZoneNodesModel_write_146 : decode b_ZoneNodesModel_write 146 = .ok (.getfield 47, 3) := by decide +kernel
theorem d_ZoneNodesModel_write_149 : decode b_ZoneNodesModel_write 149 = .ok (.aload_n 0, 1) := by decide +kernel
theorem d_ZoneNodesModel_write_150 : decode b_ZoneNodesModel_write 150 = .ok (.getfield 162, 3) := by decide +kernel
theorem d_ZoneNodesModel_write_153 : decode b_ZoneNodesModel_write 153 = .ok (.iconst 1, 1) := by decide +kernel
theorem d_ZoneNodesModel_write_154 : decode b_ZoneNodesModel_write 154 = .ok (.isub, 1) := by decide +kernel
theorem d_ZoneNodesModel_write_155 : decode b_ZoneNodesModel_write 155 = .ok (.iconst 1, 1) := by decide +kernel
theorem d_ZoneNodesModel_write_156 : decode b_ZoneNodesModel_write 156 = .ok (.bastore, 1) := by decide +kernel
theorem d_ZoneNodesModel_write_157 : decode b_ZoneNodesModel_write 157 = .ok (.aload_n 0, 1) := by decide +kernel
theorem d_ZoneNodesModel_write_158 : decode b_ZoneNodesModel_write 158 = .ok (.getfield 159, 3) := by decide +kernel
theorem d_ZoneNodesModel_write_161 : decode b_ZoneNodesModel_write 161 = .ok (.iconst 3, 1) := by decide +kernel
theorem d_ZoneNodesModel_write_162 : decode b_ZoneNodesModel_write 162 = .ok (.if_icmp .ne 11, 3) := by decide +kernel
theorem d_ZoneNodesModel_write_165 : decode b_ZoneNodesModel_write 165 = .ok (.aload_n 0, 1) := by decide +kernel
theorem d_ZoneNodesModel_write_166 : decode b_ZoneNodesModel_write 166 = .ok (.iconst 0, 1) := by decide +kernel
theorem d_ZoneNodesModel_write_167 : decode b_ZoneNodesModel_write 167 = .ok (.invokevirtual 165, 3) := by decide +kernel
theorem d_ZoneNodesModel_write_170 : decode b_ZoneNodesModel_write 170 = .ok (.pop, 1) := by decide +kernel
theorem d_ZoneNodesModel_write_171 : decode b_ZoneNodesModel_write 171 = .ok (.iconst (-1), 1) := by decide +kernel
theorem d_ZoneNodesModel_write_172 : decode b_ZoneNodesModel_write 172 = .ok (.ireturn, 1) := by decide +kernel
theorem d_ZoneNodesModel_write_173 : decode b_ZoneNodesModel_write 173 = .ok (.aload_n 0, 1) := by decide +kernel
theorem d_ZoneNodesModel_write_174 : decode b_ZoneNodesModel_write 174 = .ok (.invokevirtual 168, 3) := by decide +kernel
theorem d_ZoneNodesModel_write_177 : decode b_ZoneNodesModel_write 177 = .ok (.iconst 0, 1) := by decide +kernel
theorem d_ZoneNodesModel_write_178 : decode b_ZoneNodesModel_write 178 = .ok (.ireturn, 1) := by decide +kernel
theorem d_ZoneNodesModel_update_0 : decode b_ZoneNodesModel_update 0 = .ok (.aload_n 0, 1) := by decide +kernel
theorem d_ZoneNodesModel_update_1 : decode b_ZoneNodesModel_update 1 = .ok (.getfield 7, 3) := by decide +kernel
theorem d_ZoneNodesModel_update_4 : decode b_ZoneNodesModel_update 4 = .ok (.iconst 0, 1) := by decide +kernel
theorem d_ZoneNodesModel_update_5 : decode b_ZoneNodesModel_update 5 = .ok (.baload, 1) := by decide +kernel
theorem d_ZoneNodesModel_update_6 : decode b_ZoneNodesModel_update 6 = .ok (.ifCond .ne 5, 3) := by decide +kernel
theorem d_ZoneNodesModel_update_9 : decode b_ZoneNodesModel_update 9 = .ok (.iconst (-1), 1) := by decide +kernel
theorem d_ZoneNodesModel_update_10 : decode b_ZoneNodesModel_update 10 = .ok (.ireturn, 1) := by decide +kernel
theorem d_ZoneNodesModel_update_11 : decode b_ZoneNodesModel_update 11 = .ok (.aload_n 0, 1) := by decide +kernel
theorem d_ZoneNodesModel_update_12 : decode b_ZoneNodesModel_update 12 = .ok (.iload_n 1, 1) := by decide +kernel
theorem d_ZoneNodesModel_update_13 : decode b_ZoneNodesModel_update 13 = .ok (.iload_n 2, 1) := by decide +kernel
theorem d_ZoneNodesModel_update_14 : decode b_ZoneNodesModel_update 14 = .ok (.iload_n 3, 1) := by decide +kernel
theorem d_ZoneNodesModel_update_15 : decode b_ZoneNodesModel_update 15 = .ok (.invokevirtual 148, 3) := by decide +kernel
theorem d_ZoneNodesModel_update_18 : decode b_ZoneNodesModel_update 18 = .ok (.istore 4, 2) := by decide +kernel
theorem d_ZoneNodesModel_update_20 : decode b_ZoneNodesModel_update 20 = .ok (.aload_n 0, 1) := by decide +kernel
theorem d_ZoneNodesModel_update_21 : decode b_ZoneNodesModel_update 21 = .ok (.getfield 112, 3) := by decide +kernel
theorem d_ZoneNodesModel_update_24 : decode b_ZoneNodesModel_update 24 = .ok (.istore 5, 2) := by decide +kernel
theorem d_ZoneNodesModel_update_26 : decode b_ZoneNodesModel_update 26 = .ok (.iconst 1, 1) := by decide +kernel
theorem d_ZoneNodesModel_update_27 : decode b_ZoneNodesModel_update 27 = .ok (.istore 6, 2) := by decide +kernel
theorem d_ZoneNodesModel_update_29 : decode b_ZoneNodesModel_update 29 = .ok (.iconst 0, 1) := by decide +kernel
theorem d_ZoneNodesModel_update_30 : decode b_ZoneNodesModel_update 30 = .ok (.istore 7, 2) := by decide +kernel
theorem d_ZoneNodesModel_update_32 : decode b_ZoneNodesModel_update 32 = .ok (.iload 7, 2) := by decide +kernel
theorem d_ZoneNodesModel_update_34 : decode b_ZoneNodesModel_update 34 = .ok (.sipush 256, 3) := by decide +kernel
theorem d_ZoneNodesModel_update_37 : decode b_ZoneNodesModel_update 37 = .ok (.if_icmp .ge 23, 3) := by decide +kernel
theorem d_ZoneNodesModel_update_40 : decode b_ZoneNodesModel_update 40 = .ok (.aload_n 0, 1) := by decide +kernel
theorem d_ZoneNodesModel_update_41 : decode b_ZoneNodesModel_update 41 = .ok (.getfield 56, 3) := by decide +kernel
theorem d_ZoneNodesModel_update_44 : decode b_ZoneNodesModel_update 44 = .ok (.iload 7, 2) := by decide +kernel
theorem d_ZoneNodesModel_update_46 : decode b_ZoneNodesModel_update 46 = .ok (.aload_n 0, 1) := by decide +kernel
theorem d_ZoneNodesModel_update_47 : decode b_ZoneNodesModel_update 47 = .ok (.getfield 20, 3) := by decide +kernel
theorem d_ZoneNodesModel_update_50 : decode b_ZoneNodesModel_update 50 = .ok (.iload 7, 2) := by decide +kernel
theorem d_ZoneNodesModel_update_52 : decode b_ZoneNodesModel_update 52 = .ok (.baload, 1) := by decide +kernel
theorem d_ZoneNodesModel_update_53 : decode b_ZoneNodesModel_update 53 = .ok (.bastore, 1) := by decide +kernel
theorem d_ZoneNodesModel_update_54 : decode b_ZoneNodesModel_update 54 = .ok (.iinc 7 1, 3) := by decide +kernel
theorem d_ZoneNodesModel_update_57 : decode b_ZoneNodesModel_update 57 = .ok (.goto (-25), 3) := by decide +kernel
theorem d_ZoneNodesModel_update_60 : decode b_ZoneNodesModel_update 60 = .ok (.iconst 0, 1) := by decide +kernel
theorem d_ZoneNodesModel_update_61 : decode b_ZoneNodesModel_update 61 = .ok (.istore 7, 2) := by decide +kernel
theorem d_ZoneNodesModel_update_63 : decode b_ZoneNodesModel_update 63 = .ok (.iload 7, 2) := by decide +kernel
theorem d_ZoneNodesModel_update_65 : decode b_ZoneNodesModel_update 65 = .ok (.iload 5, 2) := by decide +kernel
theorem d_ZoneNodesModel_update_67 : decode b_ZoneNodesModel_update 67 = .ok (.if_icmp .ge 22, 3) := by decide +kernel
theorem d_ZoneNodesModel_update_70 : decode b_ZoneNodesModel_update 70 = .ok (.iload 4, 2) := by decide +kernel
theorem d_ZoneNodesModel_update_72 : decode b_ZoneNodesModel_update 72 = .ok (.ifCond .ne 17, 3) := by decide +kernel
theorem d_ZoneNodesModel_update_75 : decode b_ZoneNodesModel_update 75 = .ok (.aload_n 0, 1) := by decide +kernel
theorem d_ZoneNodesModel_update_76 : decode b_ZoneNodesModel_update 76 = .ok (.iconst 4, 1) := by decide +kernel
theorem d_ZoneNodesModel_update_77 : decode b_ZoneNodesModel_update 77 = .ok (.iload 7, 2) := by decide +kernel
theorem d_ZoneNodesModel_update_79 : decode b_ZoneNodesModel_update 79 = .ok (.iadd, 1) := by decide +kernel
theorem d_ZoneNodesModel_update_80 : decode b_ZoneNodesModel_update 80 = .ok (.invokevirtual 151, 3) := by decide +kernel
theorem d_ZoneNodesModel_update_83 : decode b_ZoneNodesModel_update 83 = .ok (.iinc 7 1, 3) := by decide +kernel
theorem d_ZoneNodesModel_update_86 : decode b_ZoneNodesModel_update 86 = .ok (.goto (-23), 3) := by decide +kernel
theorem d_ZoneNodesModel_update_89 : decode b_ZoneNodesModel_update 89 = .ok (.aload_n 0, 1) := by decide +kernel
theorem d_ZoneNodesModel_update_90 : decode b_ZoneNodesModel_update 90 = .ok (.iconst 0, 1) := by decide +kernel
theorem d_ZoneNodesModel_update_91 : decode b_ZoneNodesModel_update 91 = .ok (.putfield 105, 3) := by decide +kernel
theorem d_ZoneNodesModel_update_94 : decode b_ZoneNodesModel_update 94 = .ok (.aload_n 0, 1) := by decide +kernel
theorem d_ZoneNodesModel_update_95 : decode b_ZoneNodesModel_update 95 = .ok (.iconst 0, 1) := by decide +kernel
theorem d_ZoneNodesModel_update_96 : decode b_ZoneNodesModel_update 96 = .ok (.putfield 112, 3) := by decide +kernel
theorem d_ZoneNodesModel_update_99 : decode b_ZoneNodesModel_update 99 = .ok (.iconst 0, 1) := by decide +kernel
theorem d_ZoneNodesModel_update_100 : decode b_ZoneNodesModel_update 100 = .ok (.istore 7, 2) := by decide +kernel
theorem d_ZoneNodesModel_update_102 : decode b_ZoneNodesModel_update 102 = .ok (.iload 7, 2) := by decide +kernel
theorem d_ZoneNodesModel_update_104 : decode b_ZoneNodesModel_update 104 = .ok (.sipush 256, 3) := by decide +kernel
theorem d_ZoneNodesModel_update_107 : decode b_ZoneNodesModel_update 107 = .ok (.if_icmp .ge 38, 3) := by decide +kernel
theorem d_ZoneNodesModel_update_110 : decode b_ZoneNodesModel_update 110 = .ok (.iload 6, 2) := by decide +kernel
theorem d_ZoneNodesModel_update_112 : decode b_ZoneNodesModel_update 112 = .ok (.ifCond .eq 24, 3) := by decide +kernel
theorem d_ZoneNodesModel_update_115 : decode b_ZoneNodesModel_update 115 = .ok (.aload_n 0, 1) := by decide +kernel
theorem d_ZoneNodesModel_update_116 : decode b_ZoneNodesModel_update 116 = .ok (.getfield 56, 3) := by decide +kernel
theorem d_ZoneNodesModel_update_119 : decode b_ZoneNodesModel_update 119 = .ok (.iload 7, 2) := by decide +kernel
theorem d_ZoneNodesModel_update_121 : decode b_ZoneNodesModel_update 121 = .ok (.baload, 1) := by decide +kernel
theorem d_ZoneNodesModel_update_122 : decode b_ZoneNodesModel_update 122 = .ok (.aload_n 0, 1) := by decide +kernel
theorem d_ZoneNodesModel_update_123 : decode b_ZoneNodesModel_update 123 = .ok (.getfield 20, 3) := by decide +kernel
theorem d_ZoneNodesModel_update_126 : decode b_ZoneNodesModel_update 126 = .ok (.iload 7, 2) := by decide +kernel
theorem d_ZoneNodesModel_update_128 : decode b_ZoneNodesModel_update 128 = .ok (.baload, 1) := by decide +kernel
theorem d_ZoneNodesModel_update_129 : decode b_ZoneNodesModel_update 129 = .ok (.if_icmp .ne 7, 3) := by decide +kernel
theorem d_ZoneNodesModel_update_132 : decode b_ZoneNodesModel_update 132 = .ok (.iconst 1, 1) := by decide +kernel
theorem d_ZoneNodesModel_update_133 : decode b_ZoneNodesModel_update 133 = .ok (.goto 4, 3) := by decide +kernel
theorem d_ZoneNodesModel_update_136 : decode b_ZoneNodesModel_update 136 = .ok (.iconst 0, 1) := by decide +kernel
theorem d_ZoneNodesModel_update_137 : decode b_ZoneNodesModel_update 137 = .ok (.istore 6, 2) := by decide +kernel
theorem d_ZoneNodesModel_update_139 : decode b_ZoneNodesModel_update 139 = .ok (.iinc 7 1, 3) := by decide +kernel
theorem d_ZoneNodesModel_update_142 : decode b_ZoneNodesModel_update 142 = .ok (.goto (-40), 3) := by decide +kernel
theorem d_ZoneNodesModel_update_145 : decode b_ZoneNodesModel_update 145 = .ok (.iload 4, 2) := by decide +kernel
theorem d_ZoneNodesModel_update_147 : decode b_ZoneNodesModel_update 147 = .ok (.ifCond .le 6, 3) := by decide +kernel
theorem d_ZoneNodesModel_update_150 : decode b_ZoneNodesModel_update 150 = .ok (.iload 4, 2) := by decide +kernel
theorem d_ZoneNodesModel_update_152 : decode b_ZoneNodesModel_update 152 = .ok (.ireturn, 1) := by decide +kernel
theorem d_ZoneNodesModel_update_153 : decode b_ZoneNodesModel_update 153 = .ok (.aload_n 0, 1) := by decide +kernel
theorem d_ZoneNodesModel_update_154 : decode b_ZoneNodesModel_update 154 = .ok (.iconst 0, 1) := by decide +kernel
theorem d_ZoneNodesModel_update_155 : decode b_ZoneNodesModel_update 155 = .ok (.sipush 256, 3) := by decide +kernel
theorem d_ZoneNodesModel_update_158 : decode b_ZoneNodesModel_update 158 = .ok (.invokevirtual 141, 3) := by decide +kernel
theorem d_ZoneNodesModel_update_161 : decode b_ZoneNodesModel_update 161 = .ok (.bipush 24, 2) := by decide +kernel
theorem d_ZoneNodesModel_update_163 : decode b_ZoneNodesModel_update 163 = .ok (.if_icmp .le 7, 3) := by decide +kernel
theorem d_ZoneNodesModel_update_166 : decode b_ZoneNodesModel_update 166 = .ok (.iconst 2, 1) := by decide +kernel
theorem d_ZoneNodesModel_update_167 : decode b_ZoneNodesModel_update 167 = .ok (.goto 16, 3) := by decide +kernel
theorem d_ZoneNodesModel_update_170 : decode b_ZoneNodesModel_update 170 = .ok (.iload 6, 2) := by decide +kernel
theorem d_ZoneNodesModel_update_172 : decode b_ZoneNodesModel_update 172 = .ok (.ifCond .eq 7, 3) := by decide +kernel
theorem d_ZoneNodesModel_update_175 : decode b_ZoneNodesModel_update 175 = .ok (.iconst 0, 1) := by decide +kernel
theorem d_ZoneNodesModel_update_176 : decode b_ZoneNodesModel_update 176 = .ok (.goto 7, 3) := by decide +kernel
theorem d_ZoneNodesModel_update_179 : decode b_ZoneNodesModel_update 179 = .ok (.aload_n 0, 1) := by decide +kernel
theorem d_ZoneNodesModel_update_180 : decode b_ZoneNodesModel_update 180 = .ok (.invokevirtual 155, 3) := by decide +kernel
theorem d_ZoneNodesModel_update_183 : decode b_ZoneNodesModel_update 183 = .ok (.ireturn, 1) := by decide +kernel
theorem d_ZoneNodesLaw_cell_0 : decode b_ZoneNodesLaw_cell 0 = .ok (.iload_n 1, 1) := by decide +kernel
theorem d_ZoneNodesLaw_cell_1 : decode b_ZoneNodesLaw_cell 1 = .ok (.aload_n 0, 1) := by decide +kernel
theorem d_ZoneNodesLaw_cell_2 : decode b_ZoneNodesLaw_cell 2 = .ok (.arraylength, 1) := by decide +kernel
theorem d_ZoneNodesLaw_cell_3 : decode b_ZoneNodesLaw_cell 3 = .ok (.if_icmp .ge 9, 3) := by decide +kernel
theorem d_ZoneNodesLaw_cell_6 : decode b_ZoneNodesLaw_cell 6 = .ok (.aload_n 0, 1) := by decide +kernel
theorem d_ZoneNodesLaw_cell_7 : decode b_ZoneNodesLaw_cell 7 = .ok (.iload_n 1, 1) := by decide +kernel
theorem d_ZoneNodesLaw_cell_8 : decode b_ZoneNodesLaw_cell 8 = .ok (.iaload, 1) := by decide +kernel
theorem d_ZoneNodesLaw_cell_9 : decode b_ZoneNodesLaw_cell 9 = .ok (.goto 4, 3) := by decide +kernel
theorem d_ZoneNodesLaw_cell_12 : decode b_ZoneNodesLaw_cell 12 = .ok (.iconst 0, 1) := by decide +kernel
theorem d_ZoneNodesLaw_cell_13 : decode b_ZoneNodesLaw_cell 13 = .ok (.ireturn, 1) := by decide +kernel
theorem d_ZoneNodesLaw_law_0 : decode b_ZoneNodesLaw_law 0 = .ok (.new 7, 3) := by decide +kernel
theorem d_ZoneNodesLaw_law_3 : decode b_ZoneNodesLaw_law 3 = .ok (.dup, 1) := by decide +kernel
theorem d_ZoneNodesLaw_law_4 : decode b_ZoneNodesLaw_law 4 = .ok (.aload_n 0, 1) := by decide +kernel
theorem d_ZoneNodesLaw_law_5 : decode b_ZoneNodesLaw_law 5 = .ok (.iconst 0, 1) := by decide +kernel
theorem d_ZoneNodesLaw_law_6 : decode b_ZoneNodesLaw_law 6 = .ok (.invokestatic 9, 3) := by decide +kernel
theorem d_ZoneNodesLaw_law_9 : decode b_ZoneNodesLaw_law 9 = .ok (.aload_n 0, 1) := by decide +kernel
theorem d_ZoneNodesLaw_law_10 : decode b_ZoneNodesLaw_law 10 = .ok (.iconst 1, 1) := by decide +kernel
theorem d_ZoneNodesLaw_law_11 : decode b_ZoneNodesLaw_law 11 = .ok (.invokestatic 9, 3) := by decide +kernel
theorem d_ZoneNodesLaw_law_14 : decode b_ZoneNodesLaw_law 14 = .ok (.aload_n 0, 1) := by decide +kernel
theorem d_ZoneNodesLaw_law_15 : decode b_ZoneNodesLaw_law 15 = .ok (.iconst 2, 1) := by decide +kernel
theorem d_ZoneNodesLaw_law_16 : decode b_ZoneNodesLaw_law 16 = .ok (.invokestatic 9, 3) := by decide +kernel
theorem d_ZoneNodesLaw_law_19 : decode b_ZoneNodesLaw_law 19 = .ok (.aload_n 0, 1) := by decide +kernel
theorem d_ZoneNodesLaw_law_20 : decode b_ZoneNodesLaw_law 20 = .ok (.iconst 3, 1) := by decide +kernel
theorem d_ZoneNodesLaw_law_21 : decode b_ZoneNodesLaw_law 21 = .ok (.invokestatic 9, 3) := by decide +kernel
theorem d_ZoneNodesLaw_law_24 : decode b_ZoneNodesLaw_law 24 = .ok (.invokespecial 15, 3) := by decide +kernel
theorem d_ZoneNodesLaw_law_27 : decode b_ZoneNodesLaw_law 27 = .ok (.astore_n 1, 1) := by decide +kernel
theorem d_ZoneNodesLaw_law_28 : decode b_ZoneNodesLaw_law 28 = .ok (.new 18, 3) := by decide +kernel
theorem d_ZoneNodesLaw_law_31 : decode b_ZoneNodesLaw_law 31 = .ok (.dup, 1) := by decide +kernel
theorem d_ZoneNodesLaw_law_32 : decode b_ZoneNodesLaw_law 32 = .ok (.aload_n 0, 1) := by decide +kernel
theorem d_ZoneNodesLaw_law_33 : decode b_ZoneNodesLaw_law 33 = .ok (.iconst 0, 1) := by decide +kernel
theorem d_ZoneNodesLaw_law_34 : decode b_ZoneNodesLaw_law 34 = .ok (.invokestatic 9, 3) := by decide +kernel
theorem d_ZoneNodesLaw_law_37 : decode b_ZoneNodesLaw_law 37 = .ok (.aload_n 0, 1) := by decide +kernel
theorem d_ZoneNodesLaw_law_38 : decode b_ZoneNodesLaw_law 38 = .ok (.iconst 1, 1) := by decide +kernel
theorem d_ZoneNodesLaw_law_39 : decode b_ZoneNodesLaw_law 39 = .ok (.invokestatic 9, 3) := by decide +kernel
theorem d_ZoneNodesLaw_law_42 : decode b_ZoneNodesLaw_law 42 = .ok (.aload_n 0, 1) := by decide +kernel
theorem d_ZoneNodesLaw_law_43 : decode b_ZoneNodesLaw_law 43 = .ok (.iconst 2, 1) := by decide +kernel
theorem d_ZoneNodesLaw_law_44 : decode b_ZoneNodesLaw_law 44 = .ok (.invokestatic 9, 3) := by decide +kernel
theorem d_ZoneNodesLaw_law_47 : decode b_ZoneNodesLaw_law 47 = .ok (.aload_n 0, 1) := by decide +kernel
theorem d_ZoneNodesLaw_law_48 : decode b_ZoneNodesLaw_law 48 = .ok (.iconst 3, 1) := by decide +kernel
theorem d_ZoneNodesLaw_law_49 : decode b_ZoneNodesLaw_law 49 = .ok (.invokestatic 9, 3) := by decide +kernel
theorem d_ZoneNodesLaw_law_52 : decode b_ZoneNodesLaw_law 52 = .ok (.invokespecial 20, 3) := by decide +kernel
theorem d_ZoneNodesLaw_law_55 : decode b_ZoneNodesLaw_law 55 = .ok (.astore_n 2, 1) := by decide +kernel
theorem d_ZoneNodesLaw_law_56 : decode b_ZoneNodesLaw_law 56 = .ok (.iconst 4, 1) := by decide +kernel
theorem d_ZoneNodesLaw_law_57 : decode b_ZoneNodesLaw_law 57 = .ok (.istore_n 3, 1) := by decide +kernel
theorem d_ZoneNodesLaw_law_58 : decode b_ZoneNodesLaw_law 58 = .ok (.iload_n 3, 1) := by decide +kernel
theorem d_ZoneNodesLaw_law_59 : decode b_ZoneNodesLaw_law 59 = .ok (.aload_n 0, 1) := by decide +kernel
theorem d_ZoneNodesLaw_law_60 : decode b_ZoneNodesLaw_law 60 = .ok (.arraylength, 1) := by decide +kernel
theorem d_ZoneNodesLaw_law_61 : decode b_ZoneNodesLaw_law 61 = .ok (.iconst 5, 1) := by decide +kernel
theorem d_ZoneNodesLaw_law_62 : decode b_ZoneNodesLaw_law 62 = .ok (.isub, 1) := by decide +kernel
theorem d_ZoneNodesLaw_law_63 : decode b_ZoneNodesLaw_law 63 = .ok (.if_icmp .gt 701, 3) := by decide +kernel
theorem d_ZoneNodesLaw_law_66 : decode b_ZoneNodesLaw_law 66 = .ok (.aload_n 0, 1) := by decide +kernel
theorem d_ZoneNodesLaw_law_67 : decode b_ZoneNodesLaw_law 67 = .ok (.iload_n 3, 1) := by decide +kernel
theorem d_ZoneNodesLaw_law_68 : decode b_ZoneNodesLaw_law 68 = .ok (.iaload, 1) := by decide +kernel
theorem d_ZoneNodesLaw_law_69 : decode b_ZoneNodesLaw_law 69 = .ok (.bipush 31, 2) := by decide +kernel
theorem d_ZoneNodesLaw_law_71 : decode b_ZoneNodesLaw_law 71 = .ok (.iand, 1) := by decide +kernel
theorem d_ZoneNodesLaw_law_72 : decode b_ZoneNodesLaw_law 72 = .ok (.tableswitch 686 0 19 #[96, 129, 182, 235, 268, 311, 334, 357, 380, 403, 426, 449, 472, 485, 508, 531, 554, 607, 650, 673], 96) := by decide +kernel
theorem d_ZoneNodesLaw_law_168 : decode b_ZoneNodesLaw_law 168 = .ok (.aload_n 1, 1) := by decide +kernel
theorem d_ZoneNodesLaw_law_169 : decode b_ZoneNodesLaw_law 169 = .ok (.aload_n 0, 1) := by decide +kernel
theorem d_ZoneNodesLaw_law_170 : decode b_ZoneNodesLaw_law 170 = .ok (.iload_n 3, 1) := by decide +kernel
theorem d_ZoneNodesLaw_law_171 : decode b_ZoneNodesLaw_law 171 = .ok (.iconst 1, 1) := by decide +kernel
theorem d_ZoneNodesLaw_law_172 : decode b_ZoneNodesLaw_law 172 = .ok (.iadd, 1) := by decide +kernel
theorem d_ZoneNodesLaw_law_173 : decode b_ZoneNodesLaw_law 173 = .ok (.iaload, 1) := by decide +kernel
theorem d_ZoneNodesLaw_law_174 : decode b_ZoneNodesLaw_law 174 = .ok (.aload_n 0, 1) := by decide +kernel
theorem d_ZoneNodesLaw_law_175 : decode b_ZoneNodesLaw_law 175 = .ok (.iload_n 3, 1) := by decide +kernel
theorem d_ZoneNodesLaw_law_176 : decode b_ZoneNodesLaw_law 176 = .ok (.iconst 2, 1) := by decide +kernel
theorem d_ZoneNodesLaw_law_177 : decode b_ZoneNodesLaw_law 177 = .ok (.iadd, 1) := by decide +kernel
theorem d_ZoneNodesLaw_law_178 : decode b_ZoneNodesLaw_law 178 = .ok (.iaload, 1) := by decide +kernel
theorem d_ZoneNodesLaw_law_179 : decode b_ZoneNodesLaw_law 179 = .ok (.invokevirtual 21, 3) := by decide +kernel
theorem d_ZoneNodesLaw_law_182 : decode b_ZoneNodesLaw_law 182 = .ok (.aload_n 2, 1) := by decide +kernel
theorem d_ZoneNodesLaw_law_183 : decode b_ZoneNodesLaw_law 183 = .ok (.aload_n 0, 1) := by decide +kernel
theorem d_ZoneNodesLaw_law_184 : decode b_ZoneNodesLaw_law 184 = .ok (.iload_n 3, 1) := by decide +kernel
theorem d_ZoneNodesLaw_law_185 : decode b_ZoneNodesLaw_law 185 = .ok (.iconst 1, 1) := by decide +kernel
theorem d_ZoneNodesLaw_law_186 : decode b_ZoneNodesLaw_law 186 = .ok (.iadd, 1) := by decide +kernel
theorem d_ZoneNodesLaw_law_187 : decode b_ZoneNodesLaw_law 187 = .ok (.iaload, 1) := by decide +kernel
theorem d_ZoneNodesLaw_law_188 : decode b_ZoneNodesLaw_law 188 = .ok (.aload_n 0, 1) := by decide +kernel
theorem d_ZoneNodesLaw_law_189 : decode b_ZoneNodesLaw_law 189 = .ok (.iload_n 3, 1) := by decide +kernel
theorem d_ZoneNodesLaw_law_190 : decode b_ZoneNodesLaw_law 190 = .ok (.iconst 2, 1) := by decide +kernel
theorem d_ZoneNodesLaw_law_191 : decode b_ZoneNodesLaw_law 191 = .ok (.iadd, 1) := by decide +kernel
theorem d_ZoneNodesLaw_law_192 : decode b_ZoneNodesLaw_law 192 = .ok (.iaload, 1) := by decide +kernel
theorem d_ZoneNodesLaw_law_193 : decode b_ZoneNodesLaw_law 193 = .ok (.invokevirtual 25, 3) := by decide +kernel
theorem d_ZoneNodesLaw_law_196 : decode b_ZoneNodesLaw_law 196 = .ok (.if_icmp .eq 562, 3) := by decide +kernel
theorem d_ZoneNodesLaw_law_199 : decode b_ZoneNodesLaw_law 199 = .ok (.iconst 0, 1) := by decide +kernel
theorem d_ZoneNodesLaw_law_200 : decode b_ZoneNodesLaw_law 200 = .ok (.ireturn, 1) := by decide +kernel
theorem d_ZoneNodesLaw_law_201 : decode b_ZoneNodesLaw_law 201 = .ok (.aload_n 1, 1) := by decide +kernel
theorem d_ZoneNodesLaw_law_202 : decode b_ZoneNodesLaw_law 202 = .ok (.aload_n 0, 1) := by decide +kernel
theorem d_ZoneNodesLaw_law_203 : decode b_ZoneNodesLaw_law 203 = .ok (.iload_n 3, 1) := by decide +kernel
theorem d_ZoneNodesLaw_law_204 : decode b_ZoneNodesLaw_law 204 = .ok (.iconst 1, 1) := by decide +kernel
theorem d_ZoneNodesLaw_law_205 : decode b_ZoneNodesLaw_law 205 = .ok (.iadd, 1) := by decide +kernel
theorem d_ZoneNodesLaw_law_206 : decode b_ZoneNodesLaw_law 206 = .ok (.iaload, 1) := by decide +kernel
theorem d_ZoneNodesLaw_law_207 : decode b_ZoneNodesLaw_law 207 = .ok (.aload_n 0, 1) := by decide +kernel
theorem d_ZoneNodesLaw_law_208 : decode b_ZoneNodesLaw_law 208 = .ok (.iload_n 3, 1) := by decide +kernel
theorem d_ZoneNodesLaw_law_209 : decode b_ZoneNodesLaw_law 209 = .ok (.iconst 2, 1) := by decide +kernel
theorem d_ZoneNodesLaw_law_210 : decode b_ZoneNodesLaw_law 210 = .ok (.iadd, 1) := by decide +kernel
theorem d_ZoneNodesLaw_law_211 : decode b_ZoneNodesLaw_law 211 = .ok (.iaload, 1) := by decide +kernel
theorem d_ZoneNodesLaw_law_212 : decode b_ZoneNodesLaw_law 212 = .ok (.aload_n 0, 1) := by decide +kernel
theorem d_ZoneNodesLaw_law_213 : decode b_ZoneNodesLaw_law 213 = .ok (.iload_n 3, 1) := by decide +kernel
theorem d_ZoneNodesLaw_law_214 : decode b_ZoneNodesLaw_law 214 = .ok (.iconst 3, 1) := by decide +kernel
theorem d_ZoneNodesLaw_law_215 : decode b_ZoneNodesLaw_law 215 = .ok (.iadd, 1) := by decide +kernel
theorem d_ZoneNodesLaw_law_216 : decode b_ZoneNodesLaw_law 216 = .ok (.iaload, 1) := by decide +kernel
theorem d_ZoneNodesLaw_law_217 : decode b_ZoneNodesLaw_law 217 = .ok (.aload_n 0, 1) := by decide +kernel
theorem d_ZoneNodesLaw_law_218 : decode b_ZoneNodesLaw_law 218 = .ok (.iload_n 3, 1) := by decide +kernel
theorem d_ZoneNodesLaw_law_219 : decode b_ZoneNodesLaw_law 219 = .ok (.iconst 4, 1) := by decide +kernel
theorem d_ZoneNodesLaw_law_220 : decode b_ZoneNodesLaw_law 220 = .ok (.iadd, 1) := by decide +kernel
theorem d_ZoneNodesLaw_law_221 : decode b_ZoneNodesLaw_law 221 = .ok (.iaload, 1) := by decide +kernel
theorem d_ZoneNodesLaw_law_222 : decode b_ZoneNodesLaw_law 222 = .ok (.invokevirtual 26, 3) := by decide +kernel
theorem d_ZoneNodesLaw_law_225 : decode b_ZoneNodesLaw_law 225 = .ok (.aload_n 2, 1) := by decide +kernel
theorem d_ZoneNodesLaw_law_226 : decode b_ZoneNodesLaw_law 226 = .ok (.aload_n 0, 1) := by decide +kernel
theorem d_ZoneNodesLaw_law_227 : decode b_ZoneNodesLaw_law 227 = .ok (.iload_n 3, 1) := by decide +kernel
theorem d_ZoneNodesLaw_law_228 : decode b_ZoneNodesLaw_law 228 = .ok (.iconst 1, 1) := by decide +kernel
theorem d_ZoneNodesLaw_law_229 : decode b_ZoneNodesLaw_law 229 = .ok (.iadd, 1) := by decide +kernel
theorem d_ZoneNodesLaw_law_230 : decode b_ZoneNodesLaw_law 230 = .ok (.iaload, 1) := by decide +kernel
theorem d_ZoneNodesLaw_law_231 : decode b_ZoneNodesLaw_law 231 = .ok (.aload_n 0, 1) := by decide +kernel
theorem d_ZoneNodesLaw_law_232 : decode b_ZoneNodesLaw_law 232 = .ok (.iload_n 3, 1) := by decide +kernel
theorem d_ZoneNodesLaw_law_233 : decode b_ZoneNodesLaw_law 233 = .ok (.iconst 2, 1) := by decide +kernel
theorem d_ZoneNodesLaw_law_234 : decode b_ZoneNodesLaw_law 234 = .ok (.iadd, 1) := by decide +kernel
theorem d_ZoneNodesLaw_law_235 : decode b_ZoneNodesLaw_law 235 = .ok (.iaload, 1) := by decide +kernel
theorem d_ZoneNodesLaw_law_236 : decode b_ZoneNodesLaw_law 236 = .ok (.aload_n 0, 1) := by decide +kernel
theorem d_ZoneNodesLaw_law_237 : decode b_ZoneNodesLaw_law 237 = .ok (.iload_n 3, 1) := by decide +kernel
theorem d_ZoneNodesLaw_law_238 : decode b_ZoneNodesLaw_law 238 = .ok (.iconst 3, 1) := by decide +kernel
theorem d_ZoneNodesLaw_law_239 : decode b_ZoneNodesLaw_law 239 = .ok (.iadd, 1) := by decide +kernel
theorem d_ZoneNodesLaw_law_240 : decode b_ZoneNodesLaw_law 240 = .ok (.iaload, 1) := by decide +kernel
theorem d_ZoneNodesLaw_law_241 : decode b_ZoneNodesLaw_law 241 = .ok (.aload_n 0, 1) := by decide +kernel
theorem d_ZoneNodesLaw_law_242 : decode b_ZoneNodesLaw_law 242 = .ok (.iload_n 3, 1) := by decide +kernel
theorem d_ZoneNodesLaw_law_243 : decode b_ZoneNodesLaw_law 243 = .ok (.iconst 4, 1) := by decide +kernel
theorem d_ZoneNodesLaw_law_244 : decode b_ZoneNodesLaw_law 244 = .ok (.iadd, 1) := by decide +kernel
theorem d_ZoneNodesLaw_law_245 : decode b_ZoneNodesLaw_law 245 = .ok (.iaload, 1) := by decide +kernel
theorem d_ZoneNodesLaw_law_246 : decode b_ZoneNodesLaw_law 246 = .ok (.invokevirtual 30, 3) := by decide +kernel
theorem d_ZoneNodesLaw_law_249 : decode b_ZoneNodesLaw_law 249 = .ok (.if_icmp .eq 509, 3) := by decide +kernel
theorem d_ZoneNodesLaw_law_252 : decode b_ZoneNodesLaw_law 252 = .ok (.iconst 0, 1) := by decide +kernel
theorem d_ZoneNodesLaw_law_253 : decode b_ZoneNodesLaw_law 253 = .ok (.ireturn, 1) := by decide +kernel
theorem d_ZoneNodesLaw_law_254 : decode b_ZoneNodesLaw_law 254 = .ok (.aload_n 1, 1) := by decide +kernel
theorem d_ZoneNodesLaw_law_255 : decode b_ZoneNodesLaw_law 255 = .ok (.aload_n 0, 1) := by decide +kernel
theorem d_ZoneNodesLaw_law_256 : decode b_ZoneNodesLaw_law 256 = .ok (.iload_n 3, 1) := by decide +kernel
theorem d_ZoneNodesLaw_law_257 : decode b_ZoneNodesLaw_law 257 = .ok (.iconst 1, 1) := by decide +kernel
theorem d_ZoneNodesLaw_law_258 : decode b_ZoneNodesLaw_law 258 = .ok (.iadd, 1) := by decide +kernel
theorem d_ZoneNodesLaw_law_259 : decode b_ZoneNodesLaw_law 259 = .ok (.iaload, 1) := by decide +kernel
theorem d_ZoneNodesLaw_law_260 : decode b_ZoneNodesLaw_law 260 = .ok (.aload_n 0, 1) := by decide +kernel
theorem d_ZoneNodesLaw_law_261 : decode b_ZoneNodesLaw_law 261 = .ok (.iload_n 3, 1) := by decide +kernel
theorem d_ZoneNodesLaw_law_262 : decode b_ZoneNodesLaw_law 262 = .ok (.iconst 2, 1) := by decide +kernel
theorem d_ZoneNodesLaw_law_263 : decode b_ZoneNodesLaw_law 263 = .ok (.iadd, 1) := by decide +kernel
theorem d_ZoneNodesLaw_law_264 : decode b_ZoneNodesLaw_law 264 = .ok (.iaload, 1) := by decide +kernel
theorem d_ZoneNodesLaw_law_265 : decode b_ZoneNodesLaw_law 265 = .ok (.aload_n 0, 1) := by decide +kernel
theorem d_ZoneNodesLaw_law_266 : decode b_ZoneNodesLaw_law 266 = .ok (.iload_n 3, 1) := by decide +kernel
theorem d_ZoneNodesLaw_law_267 : decode b_ZoneNodesLaw_law 267 = .ok (.iconst 3, 1) := by decide +kernel
theorem d_ZoneNodesLaw_law_268 : decode b_ZoneNodesLaw_law 268 = .ok (.iadd, 1) := by decide +kernel
theorem d_ZoneNodesLaw_law_269 : decode b_ZoneNodesLaw_law 269 = .ok (.iaload, 1) := by decide +kernel
theorem d_ZoneNodesLaw_law_270 : decode b_ZoneNodesLaw_law 270 = .ok (.aload_n 0, 1) := by decide +kernel
theorem d_ZoneNodesLaw_law_271 : decode b_ZoneNodesLaw_law 271 = .ok (.iload_n 3, 1) := by decide +kernel
theorem d_ZoneNodesLaw_law_272 : decode b_ZoneNodesLaw_law 272 = .ok (.iconst 4, 1) := by decide +kernel
theorem d_ZoneNodesLaw_law_273 : decode b_ZoneNodesLaw_law 273 = .ok (.iadd, 1) := by decide +kernel
theorem d_ZoneNodesLaw_law_274 : decode b_ZoneNodesLaw_law 274 = .ok (.iaload, 1) := by decide +kernel
theorem d_ZoneNodesLaw_law_275 : decode b_ZoneNodesLaw_law 275 = .ok (.invokevirtual 31, 3) := by decide +kernel
theorem d_ZoneNodesLaw_law_278 : decode b_ZoneNodesLaw_law 278 = .ok (.aload_n 2, 1) := by decide +kernel
theorem d_ZoneNodesLaw_law_279 : decode b_ZoneNodesLaw_law 279 = .ok (.aload_n 0, 1) := by decide +kernel
theorem d_ZoneNodesLaw_law_280 : decode b_ZoneNodesLaw_law 280 = .ok (.iload_n 3, 1) := by decide +kernel
theorem d_ZoneNodesLaw_law_281 : decode b_ZoneNodesLaw_law 281 = .ok (.iconst 1, 1) := by decide +kernel
theorem d_ZoneNodesLaw_law_282 : decode b_ZoneNodesLaw_law 282 = .ok (.iadd, 1) := by decide +kernel
theorem d_ZoneNodesLaw_law_283 : decode b_ZoneNodesLaw_law 283 = .ok (.iaload, 1) := by decide +kernel
theorem d_ZoneNodesLaw_law_284 : decode b_ZoneNodesLaw_law 284 = .ok (.aload_n 0, 1) := by decide +kernel
theorem d_ZoneNodesLaw_law_285 : decode b_ZoneNodesLaw_law 285 = .ok (.iload_n 3, 1) := by decide +kernel
theorem d_ZoneNodesLaw_law_286 : decode b_ZoneNodesLaw_law 286 = .ok (.iconst 2, 1) := by decide +kernel
theorem d_ZoneNodesLaw_law_287 : decode b_ZoneNodesLaw_law 287 = .ok (.iadd, 1) := by decide +kernel
theorem d_ZoneNodesLaw_law_288 : decode b_ZoneNodesLaw_law 288 = .ok (.iaload, 1) := by decide +kernel
theorem d_ZoneNodesLaw_law_289 : decode b_ZoneNodesLaw_law 289 = .ok (.aload_n 0, 1) := by decide +kernel
theorem d_ZoneNodesLaw_law_290 : decode b_ZoneNodesLaw_law 290 = .ok (.iload_n 3, 1) := by decide +kernel
theorem d_ZoneNodesLaw_law_291 : decode b_ZoneNodesLaw_law 291 = .ok (.iconst 3, 1) := by decide +kernel
theorem d_ZoneNodesLaw_law_292 : decode b_ZoneNodesLaw_law 292 = .ok (.iadd, 1) := by decide +kernel
theorem d_ZoneNodesLaw_law_293 : decode b_ZoneNodesLaw_law 293 = .ok (.iaload, 1) := by decide +kernel
theorem d_ZoneNodesLaw_law_294 : decode b_ZoneNodesLaw_law 294 = .ok (.aload_n 0, 1) := by decide +kernel
theorem d_ZoneNodesLaw_law_295 : decode b_ZoneNodesLaw_law 295 = .ok (.iload_n 3, 1) := by decide +kernel
theorem d_ZoneNodesLaw_law_296 : decode b_ZoneNodesLaw_law 296 = .ok (.iconst 4, 1) := by decide +kernel
theorem d_ZoneNodesLaw_law_297 : decode b_ZoneNodesLaw_law 297 = .ok (.iadd, 1) := by decide +kernel
theorem d_ZoneNodesLaw_law_298 : decode b_ZoneNodesLaw_law 298 = .ok (.iaload, 1) := by decide +kernel
theorem d_ZoneNodesLaw_law_299 : decode b_ZoneNodesLaw_law 299 = .ok (.invokevirtual 34, 3) := by decide +kernel
theorem d_ZoneNodesLaw_law_302 : decode b_ZoneNodesLaw_law 302 = .ok (.if_icmp .eq 456, 3) := by decide +kernel
theorem d_ZoneNodesLaw_law_305 : decode b_ZoneNodesLaw_law 305 = .ok (.iconst 0, 1) := by decide +kernel
theorem d_ZoneNodesLaw_law_306 : decode b_ZoneNodesLaw_law 306 = .ok (.ireturn, 1) := by decide +kernel
theorem d_ZoneNodesLaw_law_307 : decode b_ZoneNodesLaw_law 307 = .ok (.aload_n 1, 1) := by decide +kernel
theorem d_ZoneNodesLaw_law_308 : decode b_ZoneNodesLaw_law 308 = .ok (.aload_n 0, 1) := by decide +kernel
theorem d_ZoneNodesLaw_law_309 : decode b_ZoneNodesLaw_law 309 = .ok (.iload_n 3, 1) := by decide +kernel
theorem d_ZoneNodesLaw_law_310 : decode b_ZoneNodesLaw_law 310 = .ok (.iconst 1, 1) := by decide +kernel
theorem d_ZoneNodesLaw_law_311 : decode b_ZoneNodesLaw_law 311 = .ok (.iadd, 1) := by decide +kernel
theorem d_ZoneNodesLaw_law_312 : decode b_ZoneNodesLaw_law 312 = .ok (.iaload, 1) := by decide +kernel
theorem d_ZoneNodesLaw_law_313 : decode b_ZoneNodesLaw_law 313 = .ok (.aload_n 0, 1) := by decide +kernel
theorem d_ZoneNodesLaw_law_314 : decode b_ZoneNodesLaw_law 314 = .ok (.iload_n 3, 1) := by decide +kernel
theorem d_ZoneNodesLaw_law_315 : decode b_ZoneNodesLaw_law 315 = .ok (.iconst 2, 1) := by decide +kernel
theorem d_ZoneNodesLaw_law_316 : decode b_ZoneNodesLaw_law 316 = .ok (.iadd, 1) := by decide +kernel
theorem d_ZoneNodesLaw_law_317 : decode b_ZoneNodesLaw_law 317 = .ok (.iaload, 1) := by decide +kernel
theorem d_ZoneNodesLaw_law_318 : decode b_ZoneNodesLaw_law 318 = .ok (.invokevirtual 35, 3) := by decide +kernel
theorem d_ZoneNodesLaw_law_321 : decode b_ZoneNodesLaw_law 321 = .ok (.aload_n 2, 1) := by decide +kernel
theorem d_ZoneNodesLaw_law_322 : decode b_ZoneNodesLaw_law 322 = .ok (.aload_n 0, 1) := by decide +kernel
theorem d_ZoneNodesLaw_law_323 : decode b_ZoneNodesLaw_law 323 = .ok (.iload_n 3, 1) := by decide +kernel
theorem d_ZoneNodesLaw_law_324 : decode b_ZoneNodesLaw_law 324 = .ok (.iconst 1, 1) := by decide +kernel
theorem d_ZoneNodesLaw_law_325 : decode b_ZoneNodesLaw_law 325 = .ok (.iadd, 1) := by decide +kernel
theorem d_ZoneNodesLaw_law_326 : decode b_ZoneNodesLaw_law 326 = .ok (.iaload, 1) := by decide +kernel
theorem d_ZoneNodesLaw_law_327 : decode b_ZoneNodesLaw_law 327 = .ok (.aload_n 0, 1) := by decide +kernel
theorem d_ZoneNodesLaw_law_328 : decode b_ZoneNodesLaw_law 328 = .ok (.iload_n 3, 1) := by decide +kernel
theorem d_ZoneNodesLaw_law_329 : decode b_ZoneNodesLaw_law 329 = .ok (.iconst 2, 1) := by decide +kernel
theorem d_ZoneNodesLaw_law_330 : decode b_ZoneNodesLaw_law 330 = .ok (.iadd, 1) := by decide +kernel
theorem d_ZoneNodesLaw_law_331 : decode b_ZoneNodesLaw_law 331 = .ok (.iaload, 1) := by decide +kernel
theorem d_ZoneNodesLaw_law_332 : decode b_ZoneNodesLaw_law 332 = .ok (.invokevirtual 39, 3) := by decide +kernel
theorem d_ZoneNodesLaw_law_335 : decode b_ZoneNodesLaw_law 335 = .ok (.if_icmp .eq 423, 3) := by decide +kernel
theorem d_ZoneNodesLaw_law_338 : decode b_ZoneNodesLaw_law 338 = .ok (.iconst 0, 1) := by decide +kernel
theorem d_ZoneNodesLaw_law_339 : decode b_ZoneNodesLaw_law 339 = .ok (.ireturn, 1) := by decide +kernel
theorem d_ZoneNodesLaw_law_340 : decode b_ZoneNodesLaw_law 340 = .ok (.aload_n 1, 1) := by decide +kernel
theorem d_ZoneNodesLaw_law_341 : decode b_ZoneNodesLaw_law 341 = .ok (.aload_n 0, 1) := by decide +kernel
theorem d_ZoneNodesLaw_law_342 : decode b_ZoneNodesLaw_law 342 = .ok (.iload_n 3, 1) := by decide +kernel
theorem d_ZoneNodesLaw_law_343 : decode b_ZoneNodesLaw_law 343 = .ok (.iconst 1, 1) := by decide +kernel
theorem d_ZoneNodesLaw_law_344 : decode b_ZoneNodesLaw_law 344 = .ok (.iadd, 1) := by decide +kernel
theorem d_ZoneNodesLaw_law_345 : decode b_ZoneNodesLaw_law 345 = .ok (.iaload, 1) := by decide +kernel
theorem d_ZoneNodesLaw_law_346 : decode b_ZoneNodesLaw_law 346 = .ok (.aload_n 0, 1) := by decide +kernel
theorem d_ZoneNodesLaw_law_347 : decode b_ZoneNodesLaw_law 347 = .ok (.iload_n 3, 1) := by decide +kernel
theorem d_ZoneNodesLaw_law_348 : decode b_ZoneNodesLaw_law 348 = .ok (.iconst 2, 1) := by decide +kernel
theorem d_ZoneNodesLaw_law_349 : decode b_ZoneNodesLaw_law 349 = .ok (.iadd, 1) := by decide +kernel
theorem d_ZoneNodesLaw_law_350 : decode b_ZoneNodesLaw_law 350 = .ok (.iaload, 1) := by decide +kernel
theorem d_ZoneNodesLaw_law_351 : decode b_ZoneNodesLaw_law 351 = .ok (.aload_n 0, 1) := by decide +kernel
theorem d_ZoneNodesLaw_law_352 : decode b_ZoneNodesLaw_law 352 = .ok (.iload_n 3, 1) := by decide +kernel
theorem d_ZoneNodesLaw_law_353 : decode b_ZoneNodesLaw_law 353 = .ok (.iconst 3, 1) := by decide +kernel
theorem d_ZoneNodesLaw_law_354 : decode b_ZoneNodesLaw_law 354 = .ok (.iadd, 1) := by decide +kernel
theorem d_ZoneNodesLaw_law_355 : decode b_ZoneNodesLaw_law 355 = .ok (.iaload, 1) := by decide +kernel
theorem d_ZoneNodesLaw_law_356 : decode b_ZoneNodesLaw_law 356 = .ok (.invokevirtual 40, 3) := by decide +kernel
theorem d_ZoneNodesLaw_law_359 : decode b_ZoneNodesLaw_law 359 = .ok (.aload_n 2, 1) := by decide +kernel
theorem d_ZoneNodesLaw_law_360 : decode b_ZoneNodesLaw_law 360 = .ok (.aload_n 0, 1) := by decide +kernel
theorem d_ZoneNodesLaw_law_361 : decode b_ZoneNodesLaw_law 361 = .ok (.iload_n 3, 1) := by decide +kernel
theorem d_ZoneNodesLaw_law_362 : decode b_ZoneNodesLaw_law 362 = .ok (.iconst 1, 1) := by decide +kernel
theorem d_ZoneNodesLaw_law_363 : decode b_ZoneNodesLaw_law 363 = .ok (.iadd, 1) := by decide +kernel
theorem d_ZoneNodesLaw_law_364 : decode b_ZoneNodesLaw_law 364 = .ok (.iaload, 1) := by decide +kernel
theorem d_ZoneNodesLaw_law_365 : decode b_ZoneNodesLaw_law 365 = .ok (.aload_n 0, 1) := by decide +kernel
theorem d_ZoneNodesLaw_law_366 : decode b_ZoneNodesLaw_law 366 = .ok (.iload_n 3, 1) := by decide +kernel
theorem d_ZoneNodesLaw_law_367 : decode b_ZoneNodesLaw_law 367 = .ok (.iconst 2, 1) := by decide +kernel
theorem d_ZoneNodesLaw_law_368 : decode b_ZoneNodesLaw_law 368 = .ok (.iadd, 1) := by decide +kernel
theorem d_ZoneNodesLaw_law_369 : decode b_ZoneNodesLaw_law 369 = .ok (.iaload, 1) := by decide +kernel
theorem d_ZoneNodesLaw_law_370 : decode b_ZoneNodesLaw_law 370 = .ok (.aload_n 0, 1) := by decide +kernel
theorem d_ZoneNodesLaw_law_371 : decode b_ZoneNodesLaw_law 371 = .ok (.iload_n 3, 1) := by decide +kernel
theorem d_ZoneNodesLaw_law_372 : decode b_ZoneNodesLaw_law 372 = .ok (.iconst 3, 1) := by decide +kernel
theorem d_ZoneNodesLaw_law_373 : decode b_ZoneNodesLaw_law 373 = .ok (.iadd, 1) := by decide +kernel
theorem d_ZoneNodesLaw_law_374 : decode b_ZoneNodesLaw_law 374 = .ok (.iaload, 1) := by decide +kernel
theorem d_ZoneNodesLaw_law_375 : decode b_ZoneNodesLaw_law 375 = .ok (.invokevirtual 44, 3) := by decide +kernel
theorem d_ZoneNodesLaw_law_378 : decode b_ZoneNodesLaw_law 378 = .ok (.if_icmp .eq 380, 3) := by decide +kernel
theorem d_ZoneNodesLaw_law_381 : decode b_ZoneNodesLaw_law 381 = .ok (.iconst 0, 1) := by decide +kernel
theorem d_ZoneNodesLaw_law_382 : decode b_ZoneNodesLaw_law 382 = .ok (.ireturn, 1) := by decide +kernel
theorem d_ZoneNodesLaw_law_383 : decode b_ZoneNodesLaw_law 383 = .ok (.aload_n 1, 1) := by decide +kernel
theorem d_ZoneNodesLaw_law_384 : decode b_ZoneNodesLaw_law 384 = .ok (.aload_n 0, 1) := by decide +kernel
theorem d_ZoneNodesLaw_law_385 : decode b_ZoneNodesLaw_law 385 = .ok (.iload_n 3, 1) := by decide +kernel
theorem d_ZoneNodesLaw_law_386 : decode b_ZoneNodesLaw_law 386 = .ok (.iconst 1, 1) := by decide +kernel
theorem d_ZoneNodesLaw_law_387 : decode b_ZoneNodesLaw_law 387 = .ok (.iadd, 1) := by decide +kernel
theorem d_ZoneNodesLaw_law_388 : decode b_ZoneNodesLaw_law 388 = .ok (.iaload, 1) := by decide +kernel
theorem d_ZoneNodesLaw_law_389 : decode b_ZoneNodesLaw_law 389 = .ok (.invokevirtual 45, 3) := by decide +kernel
theorem d_ZoneNodesLaw_law_392 : decode b_ZoneNodesLaw_law 392 = .ok (.aload_n 2, 1) := by decide +kernel
theorem d_ZoneNodesLaw_law_393 : decode b_ZoneNodesLaw_law 393 = .ok (.aload_n 0, 1) := by decide +kernel
theorem d_ZoneNodesLaw_law_394 : decode b_ZoneNodesLaw_law 394 = .ok (.iload_n 3, 1) := by decide +kernel
theorem d_ZoneNodesLaw_law_395 : decode b_ZoneNodesLaw_law 395 = .ok (.iconst 1, 1) := by decide +kernel
theorem d_ZoneNodesLaw_law_396 : decode b_ZoneNodesLaw_law 396 = .ok (.iadd, 1) := by decide +kernel
theorem d_ZoneNodesLaw_law_397 : decode b_ZoneNodesLaw_law 397 = .ok (.iaload, 1) := by decide +kernel
theorem d_ZoneNodesLaw_law_398 : decode b_ZoneNodesLaw_law 398 = .ok (.invokevirtual 49, 3) := by decide +kernel
theorem d_ZoneNodesLaw_law_401 : decode b_ZoneNodesLaw_law 401 = .ok (.if_icmp .eq 357, 3) := by decide +kernel
theorem d_ZoneNodesLaw_law_404 : decode b_ZoneNodesLaw_law 404 = .ok (.iconst 0, 1) := by decide +kernel
theorem d_ZoneNodesLaw_law_405 : decode b_ZoneNodesLaw_law 405 = .ok (.ireturn, 1) := by decide +kernel
theorem d_ZoneNodesLaw_law_406 : decode b_ZoneNodesLaw_law 406 = .ok (.aload_n 1, 1) := by decide +kernel
theorem d_ZoneNodesLaw_law_407 : decode b_ZoneNodesLaw_law 407 = .ok (.aload_n 0, 1) := by decide +kernel
theorem d_ZoneNodesLaw_law_408 : decode b_ZoneNodesLaw_law 408 = .ok (.iload_n 3, 1) := by decide +kernel
theorem d_ZoneNodesLaw_law_409 : decode b_ZoneNodesLaw_law 409 = .ok (.iconst 1, 1) := by decide +kernel
theorem d_ZoneNodesLaw_law_410 : decode b_ZoneNodesLaw_law 410 = .ok (.iadd, 1) := by decide +kernel
theorem d_ZoneNodesLaw_law_411 : decode b_ZoneNodesLaw_law 411 = .ok (.iaload, 1) := by decide +kernel
theorem d_ZoneNodesLaw_law_412 : decode b_ZoneNodesLaw_law 412 = .ok (.invokevirtual 50, 3) := by decide +kernel
theorem d_ZoneNodesLaw_law_415 : decode b_ZoneNodesLaw_law 415 = .ok (.aload_n 2, 1) := by decide +kernel
theorem d_ZoneNodesLaw_law_416 : decode b_ZoneNodesLaw_law 416 = .ok (.aload_n 0, 1) := by decide +kernel
theorem d_ZoneNodesLaw_law_417 : decode b_ZoneNodesLaw_law 417 = .ok (.iload_n 3, 1) := by decide +kernel
theorem d_ZoneNodesLaw_law_418 : decode b_ZoneNodesLaw_law 418 = .ok (.iconst 1, 1) := by decide +kernel
theorem d_ZoneNodesLaw_law_419 : decode b_ZoneNodesLaw_law 419 = .ok (.iadd, 1) := by decide +kernel
theorem d_ZoneNodesLaw_law_420 : decode b_ZoneNodesLaw_law 420 = .ok (.iaload, 1) := by decide +kernel
theorem d_ZoneNodesLaw_law_421 : decode b_ZoneNodesLaw_law 421 = .ok (.invokevirtual 53, 3) := by decide +kernel
theorem d_ZoneNodesLaw_law_424 : decode b_ZoneNodesLaw_law 424 = .ok (.if_icmp .eq 334, 3) := by decide +kernel
theorem d_ZoneNodesLaw_law_427 : decode b_ZoneNodesLaw_law 427 = .ok (.iconst 0, 1) := by decide +kernel
theorem d_ZoneNodesLaw_law_428 : decode b_ZoneNodesLaw_law 428 = .ok (.ireturn, 1) := by decide +kernel
theorem d_ZoneNodesLaw_law_429 : decode b_ZoneNodesLaw_law 429 = .ok (.aload_n 1, 1) := by decide +kernel
theorem d_ZoneNodesLaw_law_430 : decode b_ZoneNodesLaw_law 430 = .ok (.aload_n 0, 1) := by decide +kernel
theorem d_ZoneNodesLaw_law_431 : decode b_ZoneNodesLaw_law 431 = .ok (.iload_n 3, 1) := by decide +kernel
theorem d_ZoneNodesLaw_law_432 : decode b_ZoneNodesLaw_law 432 = .ok (.iconst 1, 1) := by decide +kernel
theorem d_ZoneNodesLaw_law_433 : decode b_ZoneNodesLaw_law 433 = .ok (.iadd, 1) := by decide +kernel
theorem d_ZoneNodesLaw_law_434 : decode b_ZoneNodesLaw_law 434 = .ok (.iaload, 1) := by decide +kernel
theorem d_ZoneNodesLaw_law_435 : decode b_ZoneNodesLaw_law 435 = .ok (.invokevirtual 54, 3) := by decide +kernel
theorem d_ZoneNodesLaw_law_438 : decode b_ZoneNodesLaw_law 438 = .ok (.aload_n 2, 1) := by decide +kernel
theorem d_ZoneNodesLaw_law_439 : decode b_ZoneNodesLaw_law 439 = .ok (.aload_n 0, 1) := by decide +kernel
theorem d_ZoneNodesLaw_law_440 : decode b_ZoneNodesLaw_law 440 = .ok (.iload_n 3, 1) := by decide +kernel
theorem d_ZoneNodesLaw_law_441 : decode b_ZoneNodesLaw_law 441 = .ok (.iconst 1, 1) := by decide +kernel
theorem d_ZoneNodesLaw_law_442 : decode b_ZoneNodesLaw_law 442 = .ok (.iadd, 1) := by decide +kernel
theorem d_ZoneNodesLaw_law_443 : decode b_ZoneNodesLaw_law 443 = .ok (.iaload, 1) := by decide +kernel
theorem d_ZoneNodesLaw_law_444 : decode b_ZoneNodesLaw_law 444 = .ok (.invokevirtual 57, 3) := by decide +kernel
theorem d_ZoneNodesLaw_law_447 : decode b_ZoneNodesLaw_law 447 = .ok (.if_icmp .eq 311, 3) := by decide +kernel
theorem d_ZoneNodesLaw_law_450 : decode b_ZoneNodesLaw_law 450 = .ok (.iconst 0, 1) := by decide +kernel
theorem d_ZoneNodesLaw_law_451 : decode b_ZoneNodesLaw_law 451 = .ok (.ireturn, 1) := by decide +kernel
theorem d_ZoneNodesLaw_law_452 : decode b_ZoneNodesLaw_law 452 = .ok (.aload_n 1, 1) := by decide +kernel
theorem d_ZoneNodesLaw_law_453 : decode b_ZoneNodesLaw_law 453 = .ok (.aload_n 0, 1) := by decide +kernel
theorem d_ZoneNodesLaw_law_454 : decode b_ZoneNodesLaw_law 454 = .ok (.iload_n 3, 1) := by decide +kernel
theorem d_ZoneNodesLaw_law_455 : decode b_ZoneNodesLaw_law 455 = .ok (.iconst 1, 1) := by decide +kernel
theorem d_ZoneNodesLaw_law_456 : decode b_ZoneNodesLaw_law 456 = .ok (.iadd, 1) := by decide +kernel
theorem d_ZoneNodesLaw_law_457 : decode b_ZoneNodesLaw_law 457 = .ok (.iaload, 1) := by decide +kernel
theorem d_ZoneNodesLaw_law_458 : decode b_ZoneNodesLaw_law 458 = .ok (.invokevirtual 58, 3) := by decide +kernel
theorem d_ZoneNodesLaw_law_461 : decode b_ZoneNodesLaw_law 461 = .ok (.aload_n 2, 1) := by decide +kernel
theorem d_ZoneNodesLaw_law_462 : decode b_ZoneNodesLaw_law 462 = .ok (.aload_n 0, 1) := by decide +kernel
theorem d_ZoneNodesLaw_law_463 : decode b_ZoneNodesLaw_law 463 = .ok (.iload_n 3, 1) := by decide +kernel
theorem d_ZoneNodesLaw_law_464 : decode b_ZoneNodesLaw_law 464 = .ok (.iconst 1, 1) := by decide +kernel
theorem d_ZoneNodesLaw_law_465 : decode b_ZoneNodesLaw_law 465 = .ok (.iadd, 1) := by decide +kernel
theorem d_ZoneNodesLaw_law_466 : decode b_ZoneNodesLaw_law 466 = .ok (.iaload, 1) := by decide +kernel
theorem d_ZoneNodesLaw_law_467 : decode b_ZoneNodesLaw_law 467 = .ok (.invokevirtual 61, 3) := by decide +kernel
theorem d_ZoneNodesLaw_law_470 : decode b_ZoneNodesLaw_law 470 = .ok (.if_icmp .eq 288, 3) := by decide +kernel
theorem d_ZoneNodesLaw_law_473 : decode b_ZoneNodesLaw_law 473 = .ok (.iconst 0, 1) := by decide +kernel
theorem d_ZoneNodesLaw_law_474 : decode b_ZoneNodesLaw_law 474 = .ok (.ireturn, 1) := by decide +kernel
theorem d_ZoneNodesLaw_law_475 : decode b_ZoneNodesLaw_law 475 = .ok (.aload_n 1, 1) := by decide +kernel
theorem d_ZoneNodesLaw_law_476 : decode b_ZoneNodesLaw_law 476 = .ok (.aload_n 0, 1) := by decide +kernel
theorem d_ZoneNodesLaw_law_477 : decode b_ZoneNodesLaw_law 477 = .ok (.iload_n 3, 1) := by decide +kernel
theorem d_ZoneNodesLaw_law_478 : decode b_ZoneNodesLaw_law 478 = .ok (.iconst 1, 1) := by decide +kernel
theorem d_ZoneNodesLaw_law_479 : decode b_ZoneNodesLaw_law 479 = .ok (.iadd, 1) := by decide +kernel
theorem d_ZoneNodesLaw_law_480 : decode b_ZoneNodesLaw_law 480 = .ok (.iaload, 1) := by decide +kernel
theorem d_ZoneNodesLaw_law_481 : decode b_ZoneNodesLaw_law 481 = .ok (.invokevirtual 62, 3) := by decide +kernel
theorem d_ZoneNodesLaw_law_484 : decode b_ZoneNodesLaw_law 484 = .ok (.aload_n 2, 1) := by decide +kernel
theorem d_ZoneNodesLaw_law_485 : decode b_ZoneNodesLaw_law 485 = .ok (.aload_n 0, 1) := by decide +kernel
theorem d_ZoneNodesLaw_law_486 : decode b_ZoneNodesLaw_law 486 = .ok (.iload_n 3, 1) := by decide +kernel
theorem d_ZoneNodesLaw_law_487 : decode b_ZoneNodesLaw_law 487 = .ok (.iconst 1, 1) := by decide +kernel
theorem d_ZoneNodesLaw_law_488 : decode b_ZoneNodesLaw_law 488 = .ok (.iadd, 1) := by decide +kernel
theorem d_ZoneNodesLaw_law_489 : decode b_ZoneNodesLaw_law 489 = .ok (.iaload, 1) := by decide +kernel
theorem d_ZoneNodesLaw_law_490 : decode b_ZoneNodesLaw_law 490 = .ok (.invokevirtual 65, 3) := by decide +kernel
theorem d_ZoneNodesLaw_law_493 : decode b_ZoneNodesLaw_law 493 = .ok (.if_icmp .eq 265, 3) := by decide +kernel
theorem d_ZoneNodesLaw_law_496 : decode b_ZoneNodesLaw_law 496 = .ok (.iconst 0, 1) := by decide +kernel
theorem d_ZoneNodesLaw_law_497 : decode b_ZoneNodesLaw_law 497 = .ok (.ireturn, 1) := by decide +kernel
theorem d_ZoneNodesLaw_law_498 : decode b_ZoneNodesLaw_law 498 = .ok (.aload_n 1, 1) := by decide +kernel
theorem d_ZoneNodesLaw_law_499 : decode b_ZoneNodesLaw_law 499 = .ok (.aload_n 0, 1) := by decide +kernel
