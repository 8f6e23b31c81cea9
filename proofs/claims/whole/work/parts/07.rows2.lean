theorem d_Md_init_0 : decode b_Md_init 0 = .ok (.aload_n 0, 1) := by decide +kernel
theorem d_Md_init_1 : decode b_Md_init 1 = .ok (.invokespecial 1, 3) := by decide +kernel
theorem d_Md_init_4 : decode b_Md_init 4 = .ok (.aload_n 0, 1) := by decide +kernel
theorem d_Md_init_5 : decode b_Md_init 5 = .ok (.bipush 6, 2) := by decide +kernel
theorem d_Md_init_7 : decode b_Md_init 7 = .ok (.newarray .int, 2) := by decide +kernel
theorem d_Md_init_9 : decode b_Md_init 9 = .ok (.putfield 7, 3) := by decide +kernel
theorem d_Md_init_12 : decode b_Md_init 12 = .ok (.aload_n 0, 1) := by decide +kernel
theorem d_Md_init_13 : decode b_Md_init 13 = .ok (.bipush 6, 2) := by decide +kernel
theorem d_Md_init_15 : decode b_Md_init 15 = .ok (.newarray .int, 2) := by decide +kernel
theorem d_Md_init_17 : decode b_Md_init 17 = .ok (.putfield 13, 3) := by decide +kernel
theorem d_Md_init_20 : decode b_Md_init 20 = .ok (.aload_n 0, 1) := by decide +kernel
theorem d_Md_init_21 : decode b_Md_init 21 = .ok (.bipush 6, 2) := by decide +kernel
theorem d_Md_init_23 : decode b_Md_init 23 = .ok (.newarray .int, 2) := by decide +kernel
theorem d_Md_init_25 : decode b_Md_init 25 = .ok (.putfield 16, 3) := by decide +kernel
theorem d_Md_init_28 : decode b_Md_init 28 = .ok (.aload_n 0, 1) := by decide +kernel
theorem d_Md_init_29 : decode b_Md_init 29 = .ok (.bipush 6, 2) := by decide +kernel
theorem d_Md_init_31 : decode b_Md_init 31 = .ok (.newarray .int, 2) := by decide +kernel
theorem d_Md_init_33 : decode b_Md_init 33 = .ok (.putfield 19, 3) := by decide +kernel
theorem d_Md_init_36 : decode b_Md_init 36 = .ok (.aload_n 0, 1) := by decide +kernel
theorem d_Md_init_37 : decode b_Md_init 37 = .ok (.bipush 6, 2) := by decide +kernel
theorem d_Md_init_39 : decode b_Md_init 39 = .ok (.newarray .int, 2) := by decide +kernel
theorem d_Md_init_41 : decode b_Md_init 41 = .ok (.putfield 22, 3) := by decide +kernel
theorem d_Md_init_44 : decode b_Md_init 44 = .ok (.aload_n 0, 1) := by decide +kernel
theorem d_Md_init_45 : decode b_Md_init 45 = .ok (.bipush 60, 2) := by decide +kernel
theorem d_Md_init_47 : decode b_Md_init 47 = .ok (.newarray .int, 2) := by decide +kernel
theorem d_Md_init_49 : decode b_Md_init 49 = .ok (.putfield 25, 3) := by decide +kernel
theorem d_Md_init_52 : decode b_Md_init 52 = .ok (.aload_n 0, 1) := by decide +kernel
theorem d_Md_init_53 : decode b_Md_init 53 = .ok (.bipush 60, 2) := by decide +kernel
theorem d_Md_init_55 : decode b_Md_init 55 = .ok (.newarray .int, 2) := by decide +kernel
theorem d_Md_init_57 : decode b_Md_init 57 = .ok (.putfield 28, 3) := by decide +kernel
theorem d_Md_init_60 : decode b_Md_init 60 = .ok (.aload_n 0, 1) := by decide +kernel
theorem d_Md_init_61 : decode b_Md_init 61 = .ok (.bipush 60, 2) := by decide +kernel
theorem d_Md_init_63 : decode b_Md_init 63 = .ok (.newarray .int, 2) := by decide +kernel
theorem d_Md_init_65 : decode b_Md_init 65 = .ok (.putfield 31, 3) := by decide +kernel
theorem d_Md_init_68 : decode b_Md_init 68 = .ok (.aload_n 0, 1) := by decide +kernel
theorem d_Md_init_69 : decode b_Md_init 69 = .ok (.bipush 64, 2) := by decide +kernel
theorem d_Md_init_71 : decode b_Md_init 71 = .ok (.newarray .int, 2) := by decide +kernel
theorem d_Md_init_73 : decode b_Md_init 73 = .ok (.putfield 34, 3) := by decide +kernel
theorem d_Md_init_76 : decode b_Md_init 76 = .ok (.aload_n 0, 1) := by decide +kernel
theorem d_Md_init_77 : decode b_Md_init 77 = .ok (.bipush 16, 2) := by decide +kernel
theorem d_Md_init_79 : decode b_Md_init 79 = .ok (.newarray .int, 2) := by decide +kernel
theorem d_Md_init_81 : decode b_Md_init 81 = .ok (.putfield 37, 3) := by decide +kernel
theorem d_Md_init_84 : decode b_Md_init 84 = .ok (.aload_n 0, 1) := by decide +kernel
theorem d_Md_init_85 : decode b_Md_init 85 = .ok (.bipush 6, 2) := by decide +kernel
theorem d_Md_init_87 : decode b_Md_init 87 = .ok (.newarray .boolean, 2) := by decide +kernel
theorem d_Md_init_89 : decode b_Md_init 89 = .ok (.putfield 40, 3) := by decide +kernel
theorem d_Md_init_92 : decode b_Md_init 92 = .ok (.aload_n 0, 1) := by decide +kernel
theorem d_Md_init_93 : decode b_Md_init 93 = .ok (.bipush 6, 2) := by decide +kernel
theorem d_Md_init_95 : decode b_Md_init 95 = .ok (.newarray .int, 2) := by decide +kernel
theorem d_Md_init_97 : decode b_Md_init 97 = .ok (.putfield 44, 3) := by decide +kernel
theorem d_Md_init_100 : decode b_Md_init 100 = .ok (.aload_n 0, 1) := by decide +kernel
theorem d_Md_init_101 : decode b_Md_init 101 = .ok (.bipush 6, 2) := by decide +kernel
theorem d_Md_init_103 : decode b_Md_init 103 = .ok (.newarray .int, 2) := by decide +kernel
theorem d_Md_init_105 : decode b_Md_init 105 = .ok (.putfield 47, 3) := by decide +kernel
theorem d_Md_init_108 : decode b_Md_init 108 = .ok (.aload_n 0, 1) := by decide +kernel
theorem d_Md_init_109 : decode b_Md_init 109 = .ok (.bipush 6, 2) := by decide +kernel
theorem d_Md_init_111 : decode b_Md_init 111 = .ok (.newarray .int, 2) := by decide +kernel
theorem d_Md_init_113 : decode b_Md_init 113 = .ok (.putfield 50, 3) := by decide +kernel
theorem d_Md_init_116 : decode b_Md_init 116 = .ok (.aload_n 0, 1) := by decide +kernel
theorem d_Md_init_117 : decode b_Md_init 117 = .ok (.bipush 24, 2) := by decide +kernel
theorem d_Md_init_119 : decode b_Md_init 119 = .ok (.newarray .int, 2) := by decide +kernel
theorem d_Md_init_121 : decode b_Md_init 121 = .ok (.putfield 53, 3) := by decide +kernel
theorem d_Md_init_124 : decode b_Md_init 124 = .ok (.aload_n 0, 1) := by decide +kernel
theorem d_Md_init_125 : decode b_Md_init 125 = .ok (.bipush 24, 2) := by decide +kernel
theorem d_Md_init_127 : decode b_Md_init 127 = .ok (.newarray .int, 2) := by decide +kernel
theorem d_Md_init_129 : decode b_Md_init 129 = .ok (.putfield 56, 3) := by decide +kernel
theorem d_Md_init_132 : decode b_Md_init 132 = .ok (.aload_n 0, 1) := by decide +kernel
theorem d_Md_init_133 : decode b_Md_init 133 = .ok (.sipush 240, 3) := by decide +kernel
theorem d_Md_init_136 : decode b_Md_init 136 = .ok (.newarray .int, 2) := by decide +kernel
theorem d_Md_init_138 : decode b_Md_init 138 = .ok (.putfield 59, 3) := by decide +kernel
theorem d_Md_init_141 : decode b_Md_init 141 = .ok (.return_, 1) := by decide +kernel
theorem d_Md_thrown_0 : decode b_Md_thrown 0 = .ok (.aload_n 0, 1) := by decide +kernel
theorem d_Md_thrown_1 : decode b_Md_thrown 1 = .ok (.getfield 62, 3) := by decide +kernel
theorem d_Md_thrown_4 : decode b_Md_thrown 4 = .ok (.ireturn, 1) := by decide +kernel
theorem d_Md_load_0 : decode b_Md_load 0 = .ok (.aload_n 0, 1) := by decide +kernel
theorem d_Md_load_1 : decode b_Md_load 1 = .ok (.aload_n 0, 1) := by decide +kernel
theorem d_Md_load_2 : decode b_Md_load 2 = .ok (.getfield 66, 3) := by decide +kernel
theorem d_Md_load_5 : decode b_Md_load 5 = .ok (.ifCond .eq 7, 3) := by decide +kernel
theorem d_Md_load_8 : decode b_Md_load 8 = .ok (.iconst 1, 1) := by decide +kernel
theorem d_Md_load_9 : decode b_Md_load 9 = .ok (.goto 18, 3) := by decide +kernel
theorem d_Md_load_12 : decode b_Md_load 12 = .ok (.iload_n 1, 1) := by decide +kernel
theorem d_Md_load_13 : decode b_Md_load 13 = .ok (.ifCond .lt 9, 3) := by decide +kernel
theorem d_Md_load_16 : decode b_Md_load 16 = .ok (.iload_n 1, 1) := by decide +kernel
theorem d_Md_load_17 : decode b_Md_load 17 = .ok (.bipush 63, 2) := by decide +kernel
theorem d_Md_load_19 : decode b_Md_load 19 = .ok (.if_icmp .le 7, 3) := by decide +kernel
theorem d_Md_load_22 : decode b_Md_load 22 = .ok (.iconst 2, 1) := by decide +kernel
theorem d_Md_load_23 : decode b_Md_load 23 = .ok (.goto 4, 3) := by decide +kernel
theorem d_Md_load_26 : decode b_Md_load 26 = .ok (.iconst 0, 1) := by decide +kernel
theorem d_Md_load_27 : decode b_Md_load 27 = .ok (.invokevirtual 70, 3) := by decide +kernel
theorem d_Md_load_30 : decode b_Md_load 30 = .ok (.ifCond .ne 10, 3) := by decide +kernel
theorem d_Md_load_33 : decode b_Md_load 33 = .ok (.aload_n 0, 1) := by decide +kernel
theorem d_Md_load_34 : decode b_Md_load 34 = .ok (.getfield 34, 3) := by decide +kernel
theorem d_Md_load_37 : decode b_Md_load 37 = .ok (.iload_n 1, 1) := by decide +kernel
theorem d_Md_load_38 : decode b_Md_load 38 = .ok (.iload_n 2, 1) := by decide +kernel
theorem d_Md_load_39 : decode b_Md_load 39 = .ok (.iastore, 1) := by decide +kernel
theorem d_Md_load_40 : decode b_Md_load 40 = .ok (.return_, 1) := by decide +kernel
theorem d_Md_refused_0 : decode b_Md_refused 0 = .ok (.aload_n 0, 1) := by decide +kernel
theorem d_Md_refused_1 : decode b_Md_refused 1 = .ok (.iload_n 1, 1) := by decide +kernel
theorem d_Md_refused_2 : decode b_Md_refused 2 = .ok (.putfield 62, 3) := by decide +kernel
theorem d_Md_refused_5 : decode b_Md_refused 5 = .ok (.iload_n 1, 1) := by decide +kernel
theorem d_Md_refused_6 : decode b_Md_refused 6 = .ok (.ifCond .le 7, 3) := by decide +kernel
theorem d_Md_refused_9 : decode b_Md_refused 9 = .ok (.iconst 1, 1) := by decide +kernel
theorem d_Md_refused_10 : decode b_Md_refused 10 = .ok (.goto 4, 3) := by decide +kernel
theorem d_Md_refused_13 : decode b_Md_refused 13 = .ok (.iconst 0, 1) := by decide +kernel
theorem d_Md_refused_14 : decode b_Md_refused 14 = .ok (.ireturn, 1) := by decide +kernel
theorem d_Md_task_0 : decode b_Md_task 0 = .ok (.iload_n 1, 1) := by decide +kernel
theorem d_Md_task_1 : decode b_Md_task 1 = .ok (.iconst 1, 1) := by decide +kernel
theorem d_Md_task_2 : decode b_Md_task 2 = .ok (.if_icmp .lt 40, 3) := by decide +kernel
theorem d_Md_task_5 : decode b_Md_task 5 = .ok (.iload_n 1, 1) := by decide +kernel
theorem d_Md_task_6 : decode b_Md_task 6 = .ok (.bipush 48, 2) := by decide +kernel
theorem d_Md_task_8 : decode b_Md_task 8 = .ok (.if_icmp .gt 34, 3) := by decide +kernel
theorem d_Md_task_11 : decode b_Md_task 11 = .ok (.iload_n 2, 1) := by decide +kernel
theorem d_Md_task_12 : decode b_Md_task 12 = .ok (.iconst 1, 1) := by decide +kernel
theorem d_Md_task_13 : decode b_Md_task 13 = .ok (.if_icmp .lt 29, 3) := by decide +kernel
theorem d_Md_task_16 : decode b_Md_task 16 = .ok (.iload_n 2, 1) := by decide +kernel
theorem d_Md_task_17 : decode b_Md_task 17 = .ok (.iload_n 3, 1) := by decide +kernel
theorem d_Md_task_18 : decode b_Md_task 18 = .ok (.if_icmp .gt 24, 3) := by decide +kernel
theorem d_Md_task_21 : decode b_Md_task 21 = .ok (.iload_n 3, 1) := by decide +kernel
theorem d_Md_task_22 : decode b_Md_task 22 = .ok (.iload_n 1, 1) := by decide +kernel
theorem d_Md_task_23 : decode b_Md_task 23 = .ok (.if_icmp .gt 19, 3) := by decide +kernel
theorem d_Md_task_26 : decode b_Md_task 26 = .ok (.iload 4, 2) := by decide +kernel
theorem d_Md_task_28 : decode b_Md_task 28 = .ok (.ifCond .lt 14, 3) := by decide +kernel
theorem d_Md_task_31 : decode b_Md_task 31 = .ok (.iload 4, 2) := by decide +kernel
theorem d_Md_task_33 : decode b_Md_task 33 = .ok (.bipush 48, 2) := by decide +kernel
theorem d_Md_task_35 : decode b_Md_task 35 = .ok (.if_icmp .gt 7, 3) := by decide +kernel
theorem d_Md_task_38 : decode b_Md_task 38 = .ok (.iconst 1, 1) := by decide +kernel
theorem d_Md_task_39 : decode b_Md_task 39 = .ok (.goto 4, 3) := by decide +kernel
theorem d_Md_task_42 : decode b_Md_task 42 = .ok (.iconst 0, 1) := by decide +kernel
theorem d_Md_task_43 : decode b_Md_task 43 = .ok (.istore 5, 2) := by decide +kernel
theorem d_Md_task_45 : decode b_Md_task 45 = .ok (.aload_n 0, 1) := by decide +kernel
theorem d_Md_task_46 : decode b_Md_task 46 = .ok (.aload_n 0, 1) := by decide +kernel
theorem d_Md_task_47 : decode b_Md_task 47 = .ok (.getfield 66, 3) := by decide +kernel
theorem d_Md_task_50 : decode b_Md_task 50 = .ok (.ifCond .ne 12, 3) := by decide +kernel
theorem d_Md_task_53 : decode b_Md_task 53 = .ok (.aload_n 0, 1) := by decide +kernel
theorem d_Md_task_54 : decode b_Md_task 54 = .ok (.getfield 74, 3) := by decide +kernel
theorem d_Md_task_57 : decode b_Md_task 57 = .ok (.bipush 6, 2) := by decide +kernel
theorem d_Md_task_59 : decode b_Md_task 59 = .ok (.if_icmp .ne 7, 3) := by decide +kernel
theorem d_Md_task_62 : decode b_Md_task 62 = .ok (.iconst 1, 1) := by decide +kernel
theorem d_Md_task_63 : decode b_Md_task 63 = .ok (.goto 13, 3) := by decide +kernel
theorem d_Md_task_66 : decode b_Md_task 66 = .ok (.iload 5, 2) := by decide +kernel
theorem d_Md_task_68 : decode b_Md_task 68 = .ok (.ifCond .eq 7, 3) := by decide +kernel
theorem d_Md_task_71 : decode b_Md_task 71 = .ok (.iconst 0, 1) := by decide +kernel
theorem d_Md_task_72 : decode b_Md_task 72 = .ok (.goto 4, 3) := by decide +kernel
theorem d_Md_task_75 : decode b_Md_task 75 = .ok (.iconst 2, 1) := by decide +kernel
theorem d_Md_task_76 : decode b_Md_task 76 = .ok (.invokevirtual 70, 3) := by decide +kernel
theorem d_Md_task_79 : decode b_Md_task 79 = .ok (.ifCond .eq 5, 3) := by decide +kernel
theorem d_Md_task_82 : decode b_Md_task 82 = .ok (.iconst 0, 1) := by decide +kernel
theorem d_Md_task_83 : decode b_Md_task 83 = .ok (.ireturn, 1) := by decide +kernel
theorem d_Md_task_84 : decode b_Md_task 84 = .ok (.aload_n 0, 1) := by decide +kernel
theorem d_Md_task_85 : decode b_Md_task 85 = .ok (.getfield 7, 3) := by decide +kernel
theorem d_Md_task_88 : decode b_Md_task 88 = .ok (.aload_n 0, 1) := by decide +kernel
theorem d_Md_task_89 : decode b_Md_task 89 = .ok (.getfield 74, 3) := by decide +kernel
theorem d_Md_task_92 : decode b_Md_task 92 = .ok (.iload_n 1, 1) := by decide +kernel
theorem d_Md_task_93 : decode b_Md_task 93 = .ok (.iastore, 1) := by decide +kernel
theorem d_Md_task_94 : decode b_Md_task 94 = .ok (.aload_n 0, 1) := by decide +kernel
theorem d_Md_task_95 : decode b_Md_task 95 = .ok (.getfield 13, 3) := by decide +kernel
theorem d_Md_task_98 : decode b_Md_task 98 = .ok (.aload_n 0, 1) := by decide +kernel
theorem d_Md_task_99 : decode b_Md_task 99 = .ok (.getfield 74, 3) := by decide +kernel
theorem d_Md_task_102 : decode b_Md_task 102 = .ok (.iload_n 2, 1) := by decide +kernel
theorem d_Md_task_103 : decode b_Md_task 103 = .ok (.iastore, 1) := by decide +kernel
theorem d_Md_task_104 : decode b_Md_task 104 = .ok (.aload_n 0, 1) := by decide +kernel
theorem d_Md_task_105 : decode b_Md_task 105 = .ok (.getfield 16, 3) := by decide +kernel
theorem d_Md_task_108 : decode b_Md_task 108 = .ok (.aload_n 0, 1) := by decide +kernel
theorem d_Md_task_109 : decode b_Md_task 109 = .ok (.getfield 74, 3) := by decide +kernel
theorem d_Md_task_112 : decode b_Md_task 112 = .ok (.iload_n 3, 1) := by decide +kernel
theorem d_Md_task_113 : decode b_Md_task 113 = .ok (.iastore, 1) := by decide +kernel
theorem d_Md_task_114 : decode b_Md_task 114 = .ok (.aload_n 0, 1) := by decide +kernel
theorem d_Md_task_115 : decode b_Md_task 115 = .ok (.getfield 19, 3) := by decide +kernel
theorem d_Md_task_118 : decode b_Md_task 118 = .ok (.aload_n 0, 1) := by decide +kernel
theorem d_Md_task_119 : decode b_Md_task 119 = .ok (.getfield 74, 3) := by decide +kernel
theorem d_Md_task_122 : decode b_Md_task 122 = .ok (.iload 4, 2) := by decide +kernel
theorem d_Md_task_124 : decode b_Md_task 124 = .ok (.iastore, 1) := by decide +kernel
theorem d_Md_task_125 : decode b_Md_task 125 = .ok (.aload_n 0, 1) := by decide +kernel
theorem d_Md_task_126 : decode b_Md_task 126 = .ok (.getfield 22, 3) := by decide +kernel
theorem d_Md_task_129 : decode b_Md_task 129 = .ok (.aload_n 0, 1) := by decide +kernel
theorem d_Md_task_130 : decode b_Md_task 130 = .ok (.getfield 74, 3) := by decide +kernel
theorem d_Md_task_133 : decode b_Md_task 133 = .ok (.bipush 8, 2) := by decide +kernel
theorem d_Md_task_135 : decode b_Md_task 135 = .ok (.aload_n 0, 1) := by decide +kernel
theorem d_Md_task_136 : decode b_Md_task 136 = .ok (.getfield 74, 3) := by decide +kernel
theorem d_Md_task_139 : decode b_Md_task 139 = .ok (.imul, 1) := by decide +kernel
theorem d_Md_task_140 : decode b_Md_task 140 = .ok (.iastore, 1) := by decide +kernel
theorem d_Md_task_141 : decode b_Md_task 141 = .ok (.iconst 0, 1) := by decide +kernel
theorem d_Md_task_142 : decode b_Md_task 142 = .ok (.istore 6, 2) := by decide +kernel
theorem d_Md_task_144 : decode b_Md_task 144 = .ok (.iload 6, 2) := by decide +kernel
theorem d_Md_task_146 : decode b_Md_task 146 = .ok (.iconst 4, 1) := by decide +kernel
theorem d_Md_task_147 : decode b_Md_task 147 = .ok (.if_icmp .ge 24, 3) := by decide +kernel
theorem d_Md_task_150 : decode b_Md_task 150 = .ok (.aload_n 0, 1) := by decide +kernel
theorem d_Md_task_151 : decode b_Md_task 151 = .ok (.getfield 56, 3) := by decide +kernel
theorem d_Md_task_154 : decode b_Md_task 154 = .ok (.iconst 4, 1) := by decide +kernel
theorem d_Md_task_155 : decode b_Md_task 155 = .ok (.aload_n 0, 1) := by decide +kernel
theorem d_Md_task_156 : decode b_Md_task 156 = .ok (.getfield 74, 3) := by decide +kernel
theorem d_Md_task_159 : decode b_Md_task 159 = .ok (.imul, 1) := by decide +kernel
theorem d_Md_task_160 : decode b_Md_task 160 = .ok (.iload 6, 2) := by decide +kernel
theorem d_Md_task_162 : decode b_Md_task 162 = .ok (.iadd, 1) := by decide +kernel
theorem d_Md_task_163 : decode b_Md_task 163 = .ok (.iconst 0, 1) := by decide +kernel
theorem d_Md_task_164 : decode b_Md_task 164 = .ok (.iastore, 1) := by decide +kernel
theorem d_Md_task_165 : decode b_Md_task 165 = .ok (.iinc 6 1, 3) := by decide +kernel
theorem d_Md_task_168 : decode b_Md_task 168 = .ok (.goto (-24), 3) := by decide +kernel
theorem d_Md_task_171 : decode b_Md_task 171 = .ok (.aload_n 0, 1) := by decide +kernel
theorem d_Md_task_172 : decode b_Md_task 172 = .ok (.dup, 1) := by decide +kernel
theorem d_Md_task_173 : decode b_Md_task 173 = .ok (.getfield 74, 3) := by decide +kernel
theorem d_Md_task_176 : decode b_Md_task 176 = .ok (.iconst 1, 1) := by decide +kernel
theorem d_Md_task_177 : decode b_Md_task 177 = .ok (.iadd, 1) := by decide +kernel
theorem d_Md_task_178 : decode b_Md_task 178 = .ok (.putfield 74, 3) := by decide +kernel
theorem d_Md_task_181 : decode b_Md_task 181 = .ok (.aload_n 0, 1) := by decide +kernel
theorem d_Md_task_182 : decode b_Md_task 182 = .ok (.getfield 74, 3) := by decide +kernel
theorem d_Md_task_185 : decode b_Md_task 185 = .ok (.iconst 1, 1) := by decide +kernel
theorem d_Md_task_186 : decode b_Md_task 186 = .ok (.isub, 1) := by decide +kernel
theorem d_Md_task_187 : decode b_Md_task 187 = .ok (.ireturn, 1) := by decide +kernel
theorem d_Md_entry_0 : decode b_Md_entry 0 = .ok (.aload_n 0, 1) := by decide +kernel
theorem d_Md_entry_1 : decode b_Md_entry 1 = .ok (.aload_n 0, 1) := by decide +kernel
theorem d_Md_entry_2 : decode b_Md_entry 2 = .ok (.getfield 66, 3) := by decide +kernel
theorem d_Md_entry_5 : decode b_Md_entry 5 = .ok (.ifCond .eq 7, 3) := by decide +kernel
theorem d_Md_entry_8 : decode b_Md_entry 8 = .ok (.iconst 1, 1) := by decide +kernel
theorem d_Md_entry_9 : decode b_Md_entry 9 = .ok (.goto 30, 3) := by decide +kernel
theorem d_Md_entry_12 : decode b_Md_entry 12 = .ok (.iload_n 1, 1) := by decide +kernel
theorem d_Md_entry_13 : decode b_Md_entry 13 = .ok (.ifCond .lt 21, 3) := by decide +kernel
theorem d_Md_entry_16 : decode b_Md_entry 16 = .ok (.iload_n 1, 1) := by decide +kernel
theorem d_Md_entry_17 : decode b_Md_entry 17 = .ok (.aload_n 0, 1) := by decide +kernel
theorem d_Md_entry_18 : decode b_Md_entry 18 = .ok (.getfield 74, 3) := by decide +kernel
theorem d_Md_entry_21 : decode b_Md_entry 21 = .ok (.if_icmp .ge 13, 3) := by decide +kernel
theorem d_Md_entry_24 : decode b_Md_entry 24 = .ok (.iload_n 2, 1) := by decide +kernel
theorem d_Md_entry_25 : decode b_Md_entry 25 = .ok (.ifCond .lt 9, 3) := by decide +kernel
theorem d_Md_entry_28 : decode b_Md_entry 28 = .ok (.iload_n 2, 1) := by decide +kernel
theorem d_Md_entry_29 : decode b_Md_entry 29 = .ok (.bipush 63, 2) := by decide +kernel
theorem d_Md_entry_31 : decode b_Md_entry 31 = .ok (.if_icmp .le 7, 3) := by decide +kernel
theorem d_Md_entry_34 : decode b_Md_entry 34 = .ok (.iconst 2, 1) := by decide +kernel
theorem d_Md_entry_35 : decode b_Md_entry 35 = .ok (.goto 4, 3) := by decide +kernel
theorem d_Md_entry_38 : decode b_Md_entry 38 = .ok (.iconst 0, 1) := by decide +kernel
theorem d_Md_entry_39 : decode b_Md_entry 39 = .ok (.invokevirtual 70, 3) := by decide +kernel
theorem d_Md_entry_42 : decode b_Md_entry 42 = .ok (.ifCond .ne 10, 3) := by decide +kernel
theorem d_Md_entry_45 : decode b_Md_entry 45 = .ok (.aload_n 0, 1) := by decide +kernel
theorem d_Md_entry_46 : decode b_Md_entry 46 = .ok (.getfield 22, 3) := by decide +kernel
theorem d_Md_entry_49 : decode b_Md_entry 49 = .ok (.iload_n 1, 1) := by decide +kernel
theorem d_Md_entry_50 : decode b_Md_entry 50 = .ok (.iload_n 2, 1) := by decide +kernel
theorem d_Md_entry_51 : decode b_Md_entry 51 = .ok (.iastore, 1) := by decide +kernel
theorem d_Md_entry_52 : decode b_Md_entry 52 = .ok (.return_, 1) := by decide +kernel
theorem d_Md_clear_0 : decode b_Md_clear 0 = .ok (.aload_n 0, 1) := by decide +kernel
theorem d_Md_clear_1 : decode b_Md_clear 1 = .ok (.aload_n 0, 1) := by decide +kernel
theorem d_Md_clear_2 : decode b_Md_clear 2 = .ok (.getfield 66, 3) := by decide +kernel
theorem d_Md_clear_5 : decode b_Md_clear 5 = .ok (.ifCond .eq 7, 3) := by decide +kernel
theorem d_Md_clear_8 : decode b_Md_clear 8 = .ok (.iconst 1, 1) := by decide +kernel
theorem d_Md_clear_9 : decode b_Md_clear 9 = .ok (.goto 4, 3) := by decide +kernel
theorem d_Md_clear_12 : decode b_Md_clear 12 = .ok (.iconst 0, 1) := by decide +kernel
theorem d_Md_clear_13 : decode b_Md_clear 13 = .ok (.invokevirtual 70, 3) := by decide +kernel
theorem d_Md_clear_16 : decode b_Md_clear 16 = .ok (.ifCond .ne 13, 3) := by decide +kernel
theorem d_Md_clear_19 : decode b_Md_clear 19 = .ok (.aload_n 0, 1) := by decide +kernel
theorem d_Md_clear_20 : decode b_Md_clear 20 = .ok (.iconst 0, 1) := by decide +kernel
theorem d_Md_clear_21 : decode b_Md_clear 21 = .ok (.putfield 74, 3) := by decide +kernel
theorem d_Md_clear_24 : decode b_Md_clear 24 = .ok (.aload_n 0, 1) := by decide +kernel
theorem d_Md_clear_25 : decode b_Md_clear 25 = .ok (.iconst 0, 1) := by decide +kernel
theorem d_Md_clear_26 : decode b_Md_clear 26 = .ok (.putfield 77, 3) := by decide +kernel
theorem d_Md_clear_29 : decode b_Md_clear 29 = .ok (.return_, 1) := by decide +kernel
theorem d_Md_round_0 : decode b_Md_round 0 = .ok (.aload_n 0, 1) := by decide +kernel
theorem d_Md_round_1 : decode b_Md_round 1 = .ok (.iconst 0, 1) := by decide +kernel
theorem d_Md_round_2 : decode b_Md_round 2 = .ok (.putfield 62, 3) := by decide +kernel
theorem d_Md_round_5 : decode b_Md_round 5 = .ok (.aload_n 0, 1) := by decide +kernel
theorem d_Md_round_6 : decode b_Md_round 6 = .ok (.invokevirtual 80, 3) := by decide +kernel
theorem d_Md_round_9 : decode b_Md_round 9 = .ok (.istore_n 1, 1) := by decide +kernel
theorem d_Md_round_10 : decode b_Md_round 10 = .ok (.iload_n 1, 1) := by decide +kernel
theorem d_Md_round_11 : decode b_Md_round 11 = .ok (.sipush 240, 3) := by decide +kernel
theorem d_Md_round_14 : decode b_Md_round 14 = .ok (.if_icmp .le 8, 3) := by decide +kernel
theorem d_Md_round_17 : decode b_Md_round 17 = .ok (.bipush (-3), 2) := by decide +kernel
theorem d_Md_round_19 : decode b_Md_round 19 = .ok (.goto 4, 3) := by decide +kernel
theorem d_Md_round_22 : decode b_Md_round 22 = .ok (.iload_n 1, 1) := by decide +kernel
theorem d_Md_round_23 : decode b_Md_round 23 = .ok (.ireturn, 1) := by decide +kernel
theorem d_Md_whole_0 : decode b_Md_whole 0 = .ok (.iconst 0, 1) := by decide +kernel
theorem d_Md_whole_1 : decode b_Md_whole 1 = .ok (.istore_n 1, 1) := by decide +kernel
theorem d_Md_whole_2 : decode b_Md_whole 2 = .ok (.iconst 0, 1) := by decide +kernel
theorem d_Md_whole_3 : decode b_Md_whole 3 = .ok (.istore_n 2, 1) := by decide +kernel
theorem d_Md_whole_4 : decode b_Md_whole 4 = .ok (.iload_n 2, 1) := by decide +kernel
theorem d_Md_whole_5 : decode b_Md_whole 5 = .ok (.ifCond .ne 55, 3) := by decide +kernel
theorem d_Md_whole_8 : decode b_Md_whole 8 = .ok (.iload_n 1, 1) := by decide +kernel
theorem d_Md_whole_9 : decode b_Md_whole 9 = .ok (.sipush 241, 3) := by decide +kernel
theorem d_Md_whole_12 : decode b_Md_whole 12 = .ok (.if_icmp .ge 48, 3) := by decide +kernel
theorem d_Md_whole_15 : decode b_Md_whole 15 = .ok (.iinc 1 1, 3) := by decide +kernel
theorem d_Md_whole_18 : decode b_Md_whole 18 = .ok (.iconst 1, 1) := by decide +kernel
theorem d_Md_whole_19 : decode b_Md_whole 19 = .ok (.istore_n 2, 1) := by decide +kernel
theorem d_Md_whole_20 : decode b_Md_whole 20 = .ok (.iconst 0, 1) := by decide +kernel
theorem d_Md_whole_21 : decode b_Md_whole 21 = .ok (.istore_n 3, 1) := by decide +kernel
theorem d_Md_whole_22 : decode b_Md_whole 22 = .ok (.iload_n 3, 1) := by decide +kernel
theorem d_Md_whole_23 : decode b_Md_whole 23 = .ok (.aload_n 0, 1) := by decide +kernel
theorem d_Md_whole_24 : decode b_Md_whole 24 = .ok (.getfield 74, 3) := by decide +kernel
theorem d_Md_whole_27 : decode b_Md_whole 27 = .ok (.if_icmp .ge 30, 3) := by decide +kernel
theorem d_Md_whole_30 : decode b_Md_whole 30 = .ok (.iload_n 2, 1) := by decide +kernel
theorem d_Md_whole_31 : decode b_Md_whole 31 = .ok (.ifCond .eq 18, 3) := by decide +kernel
theorem d_Md_whole_34 : decode b_Md_whole 34 = .ok (.iload_n 1, 1) := by decide +kernel
theorem d_Md_whole_35 : decode b_Md_whole 35 = .ok (.aload_n 0, 1) := by decide +kernel
theorem d_Md_whole_36 : decode b_Md_whole 36 = .ok (.getfield 7, 3) := by decide +kernel
theorem d_Md_whole_39 : decode b_Md_whole 39 = .ok (.iload_n 3, 1) := by decide +kernel
theorem d_Md_whole_40 : decode b_Md_whole 40 = .ok (.iaload, 1) := by decide +kernel
theorem d_Md_whole_41 : decode b_Md_whole 41 = .ok (.irem, 1) := by decide +kernel
theorem d_Md_whole_42 : decode b_Md_whole 42 = .ok (.ifCond .ne 7, 3) := by decide +kernel
theorem d_Md_whole_45 : decode b_Md_whole 45 = .ok (.iconst 1, 1) := by decide +kernel
theorem d_Md_whole_46 : decode b_Md_whole 46 = .ok (.goto 4, 3) := by decide +kernel
theorem d_Md_whole_49 : decode b_Md_whole 49 = .ok (.iconst 0, 1) := by decide +kernel
theorem d_Md_whole_50 : decode b_Md_whole 50 = .ok (.istore_n 2, 1) := by decide +kernel
theorem d_Md_whole_51 : decode b_Md_whole 51 = .ok (.iinc 3 1, 3) := by decide +kernel
theorem d_Md_whole_54 : decode b_Md_whole 54 = .ok (.goto (-32), 3) := by decide +kernel
theorem d_Md_whole_57 : decode b_Md_whole 57 = .ok (.goto (-53), 3) := by decide +kernel
theorem d_Md_whole_60 : decode b_Md_whole 60 = .ok (.iload_n 2, 1) := by decide +kernel
theorem d_Md_whole_61 : decode b_Md_whole 61 = .ok (.ifCond .eq 7, 3) := by decide +kernel
theorem d_Md_whole_64 : decode b_Md_whole 64 = .ok (.iload_n 1, 1) := by decide +kernel
theorem d_Md_whole_65 : decode b_Md_whole 65 = .ok (.goto 6, 3) := by decide +kernel
theorem d_Md_whole_68 : decode b_Md_whole 68 = .ok (.sipush 241, 3) := by decide +kernel
theorem d_Md_whole_71 : decode b_Md_whole 71 = .ok (.ireturn, 1) := by decide +kernel
theorem d_Md_synthesize_0 : decode b_Md_synthesize 0 = .ok (.aload_n 0, 1) := by decide +kernel
theorem d_Md_synthesize_1 : decode b_Md_synthesize 1 = .ok (.aload_n 0, 1) := by decide +kernel
theorem d_Md_synthesize_2 : decode b_Md_synthesize 2 = .ok (.getfield 66, 3) := by decide +kernel
theorem d_Md_synthesize_5 : decode b_Md_synthesize 5 = .ok (.ifCond .eq 7, 3) := by decide +kernel
theorem d_Md_synthesize_8 : decode b_Md_synthesize 8 = .ok (.iconst 1, 1) := by decide +kernel
theorem d_Md_synthesize_9 : decode b_Md_synthesize 9 = .ok (.goto 4, 3) := by decide +kernel
theorem d_Md_synthesize_12 : decode b_Md_synthesize 12 = .ok (.iconst 0, 1) := by decide +kernel
theorem d_Md_synthesize_13 : decode b_Md_synthesize 13 = .ok (.invokevirtual 70, 3) := by decide +kernel
theorem d_Md_synthesize_16 : decode b_Md_synthesize 16 = .ok (.ifCond .eq 5, 3) := by decide +kernel
theorem d_Md_synthesize_19 : decode b_Md_synthesize 19 = .ok (.iconst 0, 1) := by decide +kernel
theorem d_Md_synthesize_20 : decode b_Md_synthesize 20 = .ok (.ireturn, 1) := by decide +kernel
theorem d_Md_synthesize_21 : decode b_Md_synthesize 21 = .ok (.aload_n 0, 1) := by decide +kernel
theorem d_Md_synthesize_22 : decode b_Md_synthesize 22 = .ok (.iconst 0, 1) := by decide +kernel
theorem d_Md_synthesize_23 : decode b_Md_synthesize 23 = .ok (.putfield 77, 3) := by decide +kernel
theorem d_Md_synthesize_26 : decode b_Md_synthesize 26 = .ok (.aload_n 0, 1) := by decide +kernel
theorem d_Md_synthesize_27 : decode b_Md_synthesize 27 = .ok (.invokevirtual 80, 3) := by decide +kernel
theorem d_Md_synthesize_30 : decode b_Md_synthesize 30 = .ok (.istore_n 1, 1) := by decide +kernel
theorem d_Md_synthesize_31 : decode b_Md_synthesize 31 = .ok (.iload_n 1, 1) := by decide +kernel
theorem d_Md_synthesize_32 : decode b_Md_synthesize 32 = .ok (.sipush 240, 3) := by decide +kernel
theorem d_Md_synthesize_35 : decode b_Md_synthesize 35 = .ok (.if_icmp .le 6, 3) := by decide +kernel
theorem d_Md_synthesize_38 : decode b_Md_synthesize 38 = .ok (.bipush (-3), 2) := by decide +kernel
theorem d_Md_synthesize_40 : decode b_Md_synthesize 40 = .ok (.ireturn, 1) := by decide +kernel
theorem d_Md_synthesize_41 : decode b_Md_synthesize 41 = .ok (.iconst 0, 1) := by decide +kernel
theorem d_Md_synthesize_42 : decode b_Md_synthesize 42 = .ok (.istore_n 2, 1) := by decide +kernel
theorem d_Md_synthesize_43 : decode b_Md_synthesize 43 = .ok (.iconst 0, 1) := by decide +kernel
theorem d_Md_synthesize_44 : decode b_Md_synthesize 44 = .ok (.istore_n 3, 1) := by decide +kernel
theorem d_Md_synthesize_45 : decode b_Md_synthesize 45 = .ok (.iload_n 3, 1) := by decide +kernel
theorem d_Md_synthesize_46 : decode b_Md_synthesize 46 = .ok (.aload_n 0, 1) := by decide +kernel
theorem d_Md_synthesize_47 : decode b_Md_synthesize 47 = .ok (.getfield 74, 3) := by decide +kernel
theorem d_Md_synthesize_50 : decode b_Md_synthesize 50 = .ok (.if_icmp .ge 27, 3) := by decide +kernel
theorem d_Md_synthesize_53 : decode b_Md_synthesize 53 = .ok (.iload_n 2, 1) := by decide +kernel
theorem d_Md_synthesize_54 : decode b_Md_synthesize 54 = .ok (.aload_n 0, 1) := by decide +kernel
theorem d_Md_synthesize_55 : decode b_Md_synthesize 55 = .ok (.getfield 13, 3) := by decide +kernel
theorem d_Md_synthesize_58 : decode b_Md_synthesize 58 = .ok (.iload_n 3, 1) := by decide +kernel
theorem d_Md_synthesize_59 : decode b_Md_synthesize 59 = .ok (.iaload, 1) := by decide +kernel
theorem d_Md_synthesize_60 : decode b_Md_synthesize 60 = .ok (.iload_n 1, 1) := by decide +kernel
theorem d_Md_synthesize_61 : decode b_Md_synthesize 61 = .ok (.aload_n 0, 1) := by decide +kernel
theorem d_Md_synthesize_62 : decode b_Md_synthesize 62 = .ok (.getfield 7, 3) := by decide +kernel
theorem d_Md_synthesize_65 : decode b_Md_synthesize 65 = .ok (.iload_n 3, 1) := by decide +kernel
theorem d_Md_synthesize_66 : decode b_Md_synthesize 66 = .ok (.iaload, 1) := by decide +kernel
theorem d_Md_synthesize_67 : decode b_Md_synthesize 67 = .ok (.idiv, 1) := by decide +kernel
theorem d_Md_synthesize_68 : decode b_Md_synthesize 68 = .ok (.imul, 1) := by decide +kernel
theorem d_Md_synthesize_69 : decode b_Md_synthesize 69 = .ok (.iadd, 1) := by decide +kernel
theorem d_Md_synthesize_70 : decode b_Md_synthesize 70 = .ok (.istore_n 2, 1) := by decide +kernel
theorem d_Md_synthesize_71 : decode b_Md_synthesize 71 = .ok (.iinc 3 1, 3) := by decide +kernel
theorem d_Md_synthesize_74 : decode b_Md_synthesize 74 = .ok (.goto (-29), 3) := by decide +kernel
theorem d_Md_synthesize_77 : decode b_Md_synthesize 77 = .ok (.iload_n 2, 1) := by decide +kernel
theorem d_Md_synthesize_78 : decode b_Md_synthesize 78 = .ok (.iload_n 1, 1) := by decide +kernel
theorem d_Md_synthesize_79 : decode b_Md_synthesize 79 = .ok (.if_icmp .gt 15, 3) := by decide +kernel
theorem d_Md_synthesize_82 : decode b_Md_synthesize 82 = .ok (.aload_n 0, 1) := by decide +kernel
theorem d_Md_synthesize_83 : decode b_Md_synthesize 83 = .ok (.aload_n 0, 1) := by decide +kernel
theorem d_Md_synthesize_84 : decode b_Md_synthesize 84 = .ok (.invokevirtual 91, 3) := by decide +kernel
theorem d_Md_synthesize_87 : decode b_Md_synthesize 87 = .ok (.iload_n 1, 1) := by decide +kernel
theorem d_Md_synthesize_88 : decode b_Md_synthesize 88 = .ok (.invokevirtual 94, 3) := by decide +kernel
theorem d_Md_synthesize_91 : decode b_Md_synthesize 91 = .ok (.ifCond .ne 6, 3) := by decide +kernel
theorem d_Md_synthesize_94 : decode b_Md_synthesize 94 = .ok (.bipush (-2), 2) := by decide +kernel
theorem d_Md_synthesize_96 : decode b_Md_synthesize 96 = .ok (.ireturn, 1) := by decide +kernel
theorem d_Md_synthesize_97 : decode b_Md_synthesize 97 = .ok (.iconst 0, 1) := by decide +kernel
theorem d_Md_synthesize_98 : decode b_Md_synthesize 98 = .ok (.istore_n 3, 1) := by decide +kernel
theorem d_Md_synthesize_99 : decode b_Md_synthesize 99 = .ok (.iload_n 3, 1) := by decide +kernel
theorem d_Md_synthesize_100 : decode b_Md_synthesize 100 = .ok (.iload_n 1, 1) := by decide +kernel
theorem d_Md_synthesize_101 : decode b_Md_synthesize 101 = .ok (.if_icmp .ge 128, 3) := by decide +kernel
theorem d_Md_synthesize_104 : decode b_Md_synthesize 104 = .ok (.iload_n 3, 1) := by decide +kernel
theorem d_Md_synthesize_105 : decode b_Md_synthesize 105 = .ok (.ifCond .le 47, 3) := by decide +kernel
theorem d_Md_synthesize_108 : decode b_Md_synthesize 108 = .ok (.aload_n 0, 1) := by decide +kernel
theorem d_Md_synthesize_109 : decode b_Md_synthesize 109 = .ok (.getfield 59, 3) := by decide +kernel
theorem d_Md_synthesize_112 : decode b_Md_synthesize 112 = .ok (.iload_n 3, 1) := by decide +kernel
theorem d_Md_synthesize_113 : decode b_Md_synthesize 113 = .ok (.iaload, 1) := by decide +kernel
theorem d_Md_synthesize_114 : decode b_Md_synthesize 114 = .ok (.aload_n 0, 1) := by decide +kernel
theorem d_Md_synthesize_115 : decode b_Md_synthesize 115 = .ok (.getfield 59, 3) := by decide +kernel
theorem d_Md_synthesize_118 : decode b_Md_synthesize 118 = .ok (.iload_n 3, 1) := by decide +kernel
theorem d_Md_synthesize_119 : decode b_Md_synthesize 119 = .ok (.iconst 1, 1) := by decide +kernel
theorem d_Md_synthesize_120 : decode b_Md_synthesize 120 = .ok (.isub, 1) := by decide +kernel
theorem d_Md_synthesize_121 : decode b_Md_synthesize 121 = .ok (.iaload, 1) := by decide +kernel
theorem d_Md_synthesize_122 : decode b_Md_synthesize 122 = .ok (.if_icmp .ne 30, 3) := by decide +kernel
theorem d_Md_synthesize_125 : decode b_Md_synthesize 125 = .ok (.aload_n 0, 1) := by decide +kernel
theorem d_Md_synthesize_126 : decode b_Md_synthesize 126 = .ok (.getfield 59, 3) := by decide +kernel
theorem d_Md_synthesize_129 : decode b_Md_synthesize 129 = .ok (.iload_n 3, 1) := by decide +kernel
theorem d_Md_synthesize_130 : decode b_Md_synthesize 130 = .ok (.iaload, 1) := by decide +kernel
theorem d_Md_synthesize_131 : decode b_Md_synthesize 131 = .ok (.ifCond .lt 92, 3) := by decide +kernel
theorem d_Md_synthesize_134 : decode b_Md_synthesize 134 = .ok (.aload_n 0, 1) := by decide +kernel
theorem d_Md_synthesize_135 : decode b_Md_synthesize 135 = .ok (.getfield 28, 3) := by decide +kernel
theorem d_Md_synthesize_138 : decode b_Md_synthesize 138 = .ok (.aload_n 0, 1) := by decide +kernel
theorem d_Md_synthesize_139 : decode b_Md_synthesize 139 = .ok (.getfield 77, 3) := by decide +kernel
theorem d_Md_synthesize_142 : decode b_Md_synthesize 142 = .ok (.iconst 1, 1) := by decide +kernel
theorem d_Md_synthesize_143 : decode b_Md_synthesize 143 = .ok (.isub, 1) := by decide +kernel
theorem d_Md_synthesize_144 : decode b_Md_synthesize 144 = .ok (.dup2, 1) := by decide +kernel
theorem d_Md_synthesize_145 : decode b_Md_synthesize 145 = .ok (.iaload, 1) := by decide +kernel
theorem d_Md_synthesize_146 : decode b_Md_synthesize 146 = .ok (.iconst 1, 1) := by decide +kernel
theorem d_Md_synthesize_147 : decode b_Md_synthesize 147 = .ok (.iadd, 1) := by decide +kernel
theorem d_Md_synthesize_148 : decode b_Md_synthesize 148 = .ok (.iastore, 1) := by decide +kernel
theorem d_Md_synthesize_149 : decode b_Md_synthesize 149 = .ok (.goto 74, 3) := by decide +kernel
theorem d_Md_synthesize_152 : decode b_Md_synthesize 152 = .ok (.aload_n 0, 1) := by decide +kernel
theorem d_Md_synthesize_153 : decode b_Md_synthesize 153 = .ok (.getfield 59, 3) := by decide +kernel
theorem d_Md_synthesize_156 : decode b_Md_synthesize 156 = .ok (.iload_n 3, 1) := by decide +kernel
theorem d_Md_synthesize_157 : decode b_Md_synthesize 157 = .ok (.iaload, 1) := by decide +kernel
theorem d_Md_synthesize_158 : decode b_Md_synthesize 158 = .ok (.ifCond .lt 65, 3) := by decide +kernel
theorem d_Md_synthesize_161 : decode b_Md_synthesize 161 = .ok (.aload_n 0, 1) := by decide +kernel
theorem d_Md_synthesize_162 : decode b_Md_synthesize 162 = .ok (.getfield 77, 3) := by decide +kernel
theorem d_Md_synthesize_165 : decode b_Md_synthesize 165 = .ok (.bipush 60, 2) := by decide +kernel
theorem d_Md_synthesize_167 : decode b_Md_synthesize 167 = .ok (.if_icmp .ne 11, 3) := by decide +kernel
theorem d_Md_synthesize_170 : decode b_Md_synthesize 170 = .ok (.aload_n 0, 1) := by decide +kernel
theorem d_Md_synthesize_171 : decode b_Md_synthesize 171 = .ok (.iconst 0, 1) := by decide +kernel
theorem d_Md_synthesize_172 : decode b_Md_synthesize 172 = .ok (.putfield 77, 3) := by decide +kernel
theorem d_Md_synthesize_175 : decode b_Md_synthesize 175 = .ok (.bipush (-3), 2) := by decide +kernel
theorem d_Md_synthesize_177 : decode b_Md_synthesize 177 = .ok (.ireturn, 1) := by decide +kernel
theorem d_Md_synthesize_178 : decode b_Md_synthesize 178 = .ok (.aload_n 0, 1) := by decide +kernel
theorem d_Md_synthesize_179 : decode b_Md_synthesize 179 = .ok (.getfield 25, 3) := by decide +kernel
theorem d_Md_synthesize_182 : decode b_Md_synthesize 182 = .ok (.aload_n 0, 1) := by decide +kernel
theorem d_Md_synthesize_183 : decode b_Md_synthesize 183 = .ok (.getfield 77, 3) := by decide +kernel
theorem d_Md_synthesize_186 : decode b_Md_synthesize 186 = .ok (.iload_n 3, 1) := by decide +kernel
theorem d_Md_synthesize_187 : decode b_Md_synthesize 187 = .ok (.iastore, 1) := by decide +kernel
theorem d_Md_synthesize_188 : decode b_Md_synthesize 188 = .ok (.aload_n 0, 1) := by decide +kernel
theorem d_Md_synthesize_189 : decode b_Md_synthesize 189 = .ok (.getfield 28, 3) := by decide +kernel
theorem d_Md_synthesize_192 : decode b_Md_synthesize 192 = .ok (.aload_n 0, 1) := by decide +kernel
theorem d_Md_synthesize_193 : decode b_Md_synthesize 193 = .ok (.getfield 77, 3) := by decide +kernel
theorem d_Md_synthesize_196 : decode b_Md_synthesize 196 = .ok (.iconst 1, 1) := by decide +kernel
theorem d_Md_synthesize_197 : decode b_Md_synthesize 197 = .ok (.iastore, 1) := by decide +kernel
theorem d_Md_synthesize_198 : decode b_Md_synthesize 198 = .ok (.aload_n 0, 1) := by decide +kernel
theorem d_Md_synthesize_199 : decode b_Md_synthesize 199 = .ok (.getfield 31, 3) := by decide +kernel
theorem d_Md_synthesize_202 : decode b_Md_synthesize 202 = .ok (.aload_n 0, 1) := by decide +kernel
theorem d_Md_synthesize_203 : decode b_Md_synthesize 203 = .ok (.getfield 77, 3) := by decide +kernel
theorem d_Md_synthesize_206 : decode b_Md_synthesize 206 = .ok (.aload_n 0, 1) := by decide +kernel
theorem d_Md_synthesize_207 : decode b_Md_synthesize 207 = .ok (.getfield 59, 3) := by decide +kernel
theorem d_Md_synthesize_210 : decode b_Md_synthesize 210 = .ok (.iload_n 3, 1) := by decide +kernel
theorem d_Md_synthesize_211 : decode b_Md_synthesize 211 = .ok (.iaload, 1) := by decide +kernel
theorem d_Md_synthesize_212 : decode b_Md_synthesize 212 = .ok (.iastore, 1) := by decide +kernel
theorem d_Md_synthesize_213 : decode b_Md_synthesize 213 = .ok (.aload_n 0, 1) := by decide +kernel
theorem d_Md_synthesize_214 : decode b_Md_synthesize 214 = .ok (.dup, 1) := by decide +kernel
theorem d_Md_synthesize_215 : decode b_Md_synthesize 215 = .ok (.getfield 77, 3) := by decide +kernel
theorem d_Md_synthesize_218 : decode b_Md_synthesize 218 = .ok (.iconst 1, 1) := by decide +kernel
theorem d_Md_synthesize_219 : decode b_Md_synthesize 219 = .ok (.iadd, 1) := by decide +kernel
theorem d_Md_synthesize_220 : decode b_Md_synthesize 220 = .ok (.putfield 77, 3) := by decide +kernel
theorem d_Md_synthesize_223 : decode b_Md_synthesize 223 = .ok (.iinc 3 1, 3) := by decide +kernel
theorem d_Md_synthesize_226 : decode b_Md_synthesize 226 = .ok (.goto (-127), 3) := by decide +kernel
theorem d_Md_synthesize_229 : decode b_Md_synthesize 229 = .ok (.aload_n 0, 1) := by decide +kernel
theorem d_Md_synthesize_230 : decode b_Md_synthesize 230 = .ok (.getfield 77, 3) := by decide +kernel
theorem d_Md_synthesize_233 : decode b_Md_synthesize 233 = .ok (.ireturn, 1) := by decide +kernel
theorem d_Md_greatestOffset_0 : decode b_Md_greatestOffset 0 = .ok (.iconst 0, 1) := by decide +kernel
theorem d_Md_greatestOffset_1 : decode b_Md_greatestOffset 1 = .ok (.istore_n 1, 1) := by decide +kernel
theorem d_Md_greatestOffset_2 : decode b_Md_greatestOffset 2 = .ok (.iconst 0, 1) := by decide +kernel
theorem d_Md_greatestOffset_3 : decode b_Md_greatestOffset 3 = .ok (.istore_n 2, 1) := by decide +kernel
theorem d_Md_greatestOffset_4 : decode b_Md_greatestOffset 4 = .ok (.iload_n 2, 1) := by decide +kernel
theorem d_Md_greatestOffset_5 : decode b_Md_greatestOffset 5 = .ok (.aload_n 0, 1) := by decide +kernel
theorem d_Md_greatestOffset_6 : decode b_Md_greatestOffset 6 = .ok (.getfield 74, 3) := by decide +kernel
theorem d_Md_greatestOffset_9 : decode b_Md_greatestOffset 9 = .ok (.if_icmp .ge 30, 3) := by decide +kernel
theorem d_Md_greatestOffset_12 : decode b_Md_greatestOffset 12 = .ok (.aload_n 0, 1) := by decide +kernel
theorem d_Md_greatestOffset_13 : decode b_Md_greatestOffset 13 = .ok (.getfield 19, 3) := by decide +kernel
theorem d_Md_greatestOffset_16 : decode b_Md_greatestOffset 16 = .ok (.iload_n 2, 1) := by decide +kernel
theorem d_Md_greatestOffset_17 : decode b_Md_greatestOffset 17 = .ok (.iaload, 1) := by decide +kernel
theorem d_Md_greatestOffset_18 : decode b_Md_greatestOffset 18 = .ok (.iload_n 1, 1) := by decide +kernel
theorem d_Md_greatestOffset_19 : decode b_Md_greatestOffset 19 = .ok (.if_icmp .le 12, 3) := by decide +kernel
theorem d_Md_greatestOffset_22 : decode b_Md_greatestOffset 22 = .ok (.aload_n 0, 1) := by decide +kernel
theorem d_Md_greatestOffset_23 : decode b_Md_greatestOffset 23 = .ok (.getfield 19, 3) := by decide +kernel
theorem d_Md_greatestOffset_26 : decode b_Md_greatestOffset 26 = .ok (.iload_n 2, 1) := by decide +kernel
theorem d_Md_greatestOffset_27 : decode b_Md_greatestOffset 27 = .ok (.iaload, 1) := by decide +kernel
theorem d_Md_greatestOffset_28 : decode b_Md_greatestOffset 28 = .ok (.goto 4, 3) := by decide +kernel
theorem d_Md_greatestOffset_31 : decode b_Md_greatestOffset 31 = .ok (.iload_n 1, 1) := by decide +kernel
theorem d_Md_greatestOffset_32 : decode b_Md_greatestOffset 32 = .ok (.istore_n 1, 1) := by decide +kernel
theorem d_Md_greatestOffset_33 : decode b_Md_greatestOffset 33 = .ok (.iinc 2 1, 3) := by decide +kernel
theorem d_Md_greatestOffset_36 : decode b_Md_greatestOffset 36 = .ok (.goto (-32), 3) := by decide +kernel
theorem d_Md_greatestOffset_39 : decode b_Md_greatestOffset 39 = .ok (.iload_n 1, 1) := by decide +kernel
theorem d_Md_greatestOffset_40 : decode b_Md_greatestOffset 40 = .ok (.ireturn, 1) := by decide +kernel
theorem d_Md_imagine_0 : decode b_Md_imagine 0 = .ok (.iconst 0, 1) := by decide +kernel
theorem d_Md_imagine_1 : decode b_Md_imagine 1 = .ok (.istore_n 3, 1) := by decide +kernel
theorem d_Md_imagine_2 : decode b_Md_imagine 2 = .ok (.iload_n 3, 1) := by decide +kernel
theorem d_Md_imagine_3 : decode b_Md_imagine 3 = .ok (.aload_n 0, 1) := by decide +kernel
theorem d_Md_imagine_4 : decode b_Md_imagine 4 = .ok (.getfield 74, 3) := by decide +kernel
theorem d_Md_imagine_7 : decode b_Md_imagine 7 = .ok (.if_icmp .ge 16, 3) := by decide +kernel
theorem d_Md_imagine_10 : decode b_Md_imagine 10 = .ok (.aload_n 0, 1) := by decide +kernel
theorem d_Md_imagine_11 : decode b_Md_imagine 11 = .ok (.getfield 40, 3) := by decide +kernel
theorem d_Md_imagine_14 : decode b_Md_imagine 14 = .ok (.iload_n 3, 1) := by decide +kernel
theorem d_Md_imagine_15 : decode b_Md_imagine 15 = .ok (.iconst 0, 1) := by decide +kernel
theorem d_Md_imagine_16 : decode b_Md_imagine 16 = .ok (.bastore, 1) := by decide +kernel
theorem d_Md_imagine_17 : decode b_Md_imagine 17 = .ok (.iinc 3 1, 3) := by decide +kernel
theorem d_Md_imagine_20 : decode b_Md_imagine 20 = .ok (.goto (-18), 3) := by decide +kernel
theorem d_Md_imagine_23 : decode b_Md_imagine 23 = .ok (.iconst 0, 1) := by decide +kernel
theorem d_Md_imagine_24 : decode b_Md_imagine 24 = .ok (.istore_n 3, 1) := by decide +kernel
theorem d_Md_imagine_25 : decode b_Md_imagine 25 = .ok (.iload_n 3, 1) := by decide +kernel
theorem d_Md_imagine_26 : decode b_Md_imagine 26 = .ok (.iload_n 1, 1) := by decide +kernel
theorem d_Md_imagine_27 : decode b_Md_imagine 27 = .ok (.iconst 2, 1) := by decide +kernel
theorem d_Md_imagine_28 : decode b_Md_imagine 28 = .ok (.iload_n 2, 1) := by decide +kernel
theorem d_Md_imagine_29 : decode b_Md_imagine 29 = .ok (.imul, 1) := by decide +kernel
theorem d_Md_imagine_30 : decode b_Md_imagine 30 = .ok (.iadd, 1) := by decide +kernel
theorem d_Md_imagine_31 : decode b_Md_imagine 31 = .ok (.if_icmp .gt 157, 3) := by decide +kernel
theorem d_Md_imagine_34 : decode b_Md_imagine 34 = .ok (.iconst 0, 1) := by decide +kernel
theorem d_Md_imagine_35 : decode b_Md_imagine 35 = .ok (.istore 4, 2) := by decide +kernel
theorem d_Md_imagine_37 : decode b_Md_imagine 37 = .ok (.iload 4, 2) := by decide +kernel
theorem d_Md_imagine_39 : decode b_Md_imagine 39 = .ok (.aload_n 0, 1) := by decide +kernel
theorem d_Md_imagine_40 : decode b_Md_imagine 40 = .ok (.getfield 74, 3) := by decide +kernel
theorem d_Md_imagine_43 : decode b_Md_imagine 43 = .ok (.if_icmp .ge 91, 3) := by decide +kernel
theorem d_Md_imagine_46 : decode b_Md_imagine 46 = .ok (.aload_n 0, 1) := by decide +kernel
theorem d_Md_imagine_47 : decode b_Md_imagine 47 = .ok (.getfield 40, 3) := by decide +kernel
theorem d_Md_imagine_50 : decode b_Md_imagine 50 = .ok (.iload 4, 2) := by decide +kernel
theorem d_Md_imagine_52 : decode b_Md_imagine 52 = .ok (.baload, 1) := by decide +kernel
theorem d_Md_imagine_53 : decode b_Md_imagine 53 = .ok (.ifCond .eq 41, 3) := by decide +kernel
theorem d_Md_imagine_56 : decode b_Md_imagine 56 = .ok (.aload_n 0, 1) := by decide +kernel
theorem d_Md_imagine_57 : decode b_Md_imagine 57 = .ok (.getfield 44, 3) := by decide +kernel
theorem d_Md_imagine_60 : decode b_Md_imagine 60 = .ok (.iload 4, 2) := by decide +kernel
theorem d_Md_imagine_62 : decode b_Md_imagine 62 = .ok (.iaload, 1) := by decide +kernel
theorem d_Md_imagine_63 : decode b_Md_imagine 63 = .ok (.aload_n 0, 1) := by decide +kernel
theorem d_Md_imagine_64 : decode b_Md_imagine 64 = .ok (.getfield 16, 3) := by decide +kernel
theorem d_Md_imagine_67 : decode b_Md_imagine 67 = .ok (.iload 4, 2) := by decide +kernel
theorem d_Md_imagine_69 : decode b_Md_imagine 69 = .ok (.iaload, 1) := by decide +kernel
theorem d_Md_imagine_70 : decode b_Md_imagine 70 = .ok (.iadd, 1) := by decide +kernel
theorem d_Md_imagine_71 : decode b_Md_imagine 71 = .ok (.iload_n 3, 1) := by decide +kernel
theorem d_Md_imagine_72 : decode b_Md_imagine 72 = .ok (.if_icmp .gt 22, 3) := by decide +kernel
theorem d_Md_imagine_75 : decode b_Md_imagine 75 = .ok (.aload_n 0, 1) := by decide +kernel
theorem d_Md_imagine_76 : decode b_Md_imagine 76 = .ok (.getfield 47, 3) := by decide +kernel
theorem d_Md_imagine_79 : decode b_Md_imagine 79 = .ok (.iload 4, 2) := by decide +kernel
theorem d_Md_imagine_81 : decode b_Md_imagine 81 = .ok (.iaload, 1) := by decide +kernel
theorem d_Md_imagine_82 : decode b_Md_imagine 82 = .ok (.aload_n 0, 1) := by decide +kernel
theorem d_Md_imagine_83 : decode b_Md_imagine 83 = .ok (.getfield 13, 3) := by decide +kernel
theorem d_Md_imagine_86 : decode b_Md_imagine 86 = .ok (.iload 4, 2) := by decide +kernel
theorem d_Md_imagine_88 : decode b_Md_imagine 88 = .ok (.iaload, 1) := by decide +kernel
theorem d_Md_imagine_89 : decode b_Md_imagine 89 = .ok (.if_icmp .ge 5, 3) := by decide +kernel
theorem d_Md_imagine_92 : decode b_Md_imagine 92 = .ok (.iconst 0, 1) := by decide +kernel
theorem d_Md_imagine_93 : decode b_Md_imagine 93 = .ok (.ireturn, 1) := by decide +kernel
theorem d_Md_imagine_94 : decode b_Md_imagine 94 = .ok (.aload_n 0, 1) := by decide +kernel
theorem d_Md_imagine_95 : decode b_Md_imagine 95 = .ok (.iload 4, 2) := by decide +kernel
theorem d_Md_imagine_97 : decode b_Md_imagine 97 = .ok (.iload_n 3, 1) := by decide +kernel
theorem d_Md_imagine_98 : decode b_Md_imagine 98 = .ok (.invokevirtual 84, 3) := by decide +kernel
theorem d_Md_imagine_101 : decode b_Md_imagine 101 = .ok (.ifCond .eq 27, 3) := by decide +kernel
theorem d_Md_imagine_104 : decode b_Md_imagine 104 = .ok (.aload_n 0, 1) := by decide +kernel
theorem d_Md_imagine_105 : decode b_Md_imagine 105 = .ok (.getfield 40, 3) := by decide +kernel
theorem d_Md_imagine_108 : decode b_Md_imagine 108 = .ok (.iload 4, 2) := by decide +kernel
theorem d_Md_imagine_110 : decode b_Md_imagine 110 = .ok (.iconst 1, 1) := by decide +kernel
theorem d_Md_imagine_111 : decode b_Md_imagine 111 = .ok (.bastore, 1) := by decide +kernel
theorem d_Md_imagine_112 : decode b_Md_imagine 112 = .ok (.aload_n 0, 1) := by decide +kernel
theorem d_Md_imagine_113 : decode b_Md_imagine 113 = .ok (.getfield 44, 3) := by decide +kernel
theorem d_Md_imagine_116 : decode b_Md_imagine 116 = .ok (.iload 4, 2) := by decide +kernel
theorem d_Md_imagine_118 : decode b_Md_imagine 118 = .ok (.iload_n 3, 1) := by decide +kernel
theorem d_Md_imagine_119 : decode b_Md_imagine 119 = .ok (.iastore, 1) := by decide +kernel
theorem d_Md_imagine_120 : decode b_Md_imagine 120 = .ok (.aload_n 0, 1) := by decide +kernel
theorem d_Md_imagine_121 : decode b_Md_imagine 121 = .ok (.getfield 47, 3) := by decide +kernel
theorem d_Md_imagine_124 : decode b_Md_imagine 124 = .ok (.iload 4, 2) := by decide +kernel
theorem d_Md_imagine_126 : decode b_Md_imagine 126 = .ok (.iconst 0, 1) := by decide +kernel
theorem d_Md_imagine_127 : decode b_Md_imagine 127 = .ok (.iastore, 1) := by decide +kernel
theorem d_Md_imagine_128 : decode b_Md_imagine 128 = .ok (.iinc 4 1, 3) := by decide +kernel
theorem d_Md_imagine_131 : decode b_Md_imagine 131 = .ok (.goto (-94), 3) := by decide +kernel
theorem d_Md_imagine_134 : decode b_Md_imagine 134 = .ok (.aload_n 0, 1) := by decide +kernel
theorem d_Md_imagine_135 : decode b_Md_imagine 135 = .ok (.invokevirtual 88, 3) := by decide +kernel
theorem d_Md_imagine_138 : decode b_Md_imagine 138 = .ok (.istore 4, 2) := by decide +kernel
theorem d_Md_imagine_140 : decode b_Md_imagine 140 = .ok (.iload 4, 2) := by decide +kernel
theorem d_Md_imagine_142 : decode b_Md_imagine 142 = .ok (.ifCond .lt 14, 3) := by decide +kernel
theorem d_Md_imagine_145 : decode b_Md_imagine 145 = .ok (.aload_n 0, 1) := by decide +kernel
theorem d_Md_imagine_146 : decode b_Md_imagine 146 = .ok (.getfield 47, 3) := by decide +kernel
theorem d_Md_imagine_149 : decode b_Md_imagine 149 = .ok (.iload 4, 2) := by decide +kernel
theorem d_Md_imagine_151 : decode b_Md_imagine 151 = .ok (.dup2, 1) := by decide +kernel
theorem d_Md_imagine_152 : decode b_Md_imagine 152 = .ok (.iaload, 1) := by decide +kernel
theorem d_Md_imagine_153 : decode b_Md_imagine 153 = .ok (.iconst 1, 1) := by decide +kernel
theorem d_Md_imagine_154 : decode b_Md_imagine 154 = .ok (.iadd, 1) := by decide +kernel
theorem d_Md_imagine_155 : decode b_Md_imagine 155 = .ok (.iastore, 1) := by decide +kernel
theorem d_Md_imagine_156 : decode b_Md_imagine 156 = .ok (.iload_n 3, 1) := by decide +kernel
theorem d_Md_imagine_157 : decode b_Md_imagine 157 = .ok (.iload_n 1, 1) := by decide +kernel
theorem d_Md_imagine_158 : decode b_Md_imagine 158 = .ok (.iload_n 2, 1) := by decide +kernel
theorem d_Md_imagine_159 : decode b_Md_imagine 159 = .ok (.iadd, 1) := by decide +kernel
theorem d_Md_imagine_160 : decode b_Md_imagine 160 = .ok (.if_icmp .lt 22, 3) := by decide +kernel
theorem d_Md_imagine_163 : decode b_Md_imagine 163 = .ok (.iload_n 3, 1) := by decide +kernel
theorem d_Md_imagine_164 : decode b_Md_imagine 164 = .ok (.iload_n 1, 1) := by decide +kernel
theorem d_Md_imagine_165 : decode b_Md_imagine 165 = .ok (.iconst 2, 1) := by decide +kernel
theorem d_Md_imagine_166 : decode b_Md_imagine 166 = .ok (.iload_n 2, 1) := by decide +kernel
theorem d_Md_imagine_167 : decode b_Md_imagine 167 = .ok (.imul, 1) := by decide +kernel
theorem d_Md_imagine_168 : decode b_Md_imagine 168 = .ok (.iadd, 1) := by decide +kernel
theorem d_Md_imagine_169 : decode b_Md_imagine 169 = .ok (.if_icmp .ge 13, 3) := by decide +kernel
theorem d_Md_imagine_172 : decode b_Md_imagine 172 = .ok (.aload_n 0, 1) := by decide +kernel
theorem d_Md_imagine_173 : decode b_Md_imagine 173 = .ok (.getfield 59, 3) := by decide +kernel
theorem d_Md_imagine_176 : decode b_Md_imagine 176 = .ok (.iload_n 3, 1) := by decide +kernel
theorem d_Md_imagine_177 : decode b_Md_imagine 177 = .ok (.iload_n 2, 1) := by decide +kernel
theorem d_Md_imagine_178 : decode b_Md_imagine 178 = .ok (.irem, 1) := by decide +kernel
theorem d_Md_imagine_179 : decode b_Md_imagine 179 = .ok (.iload 4, 2) := by decide +kernel
theorem d_Md_imagine_181 : decode b_Md_imagine 181 = .ok (.iastore, 1) := by decide +kernel
theorem d_Md_imagine_182 : decode b_Md_imagine 182 = .ok (.iinc 3 1, 3) := by decide +kernel
theorem d_Md_imagine_185 : decode b_Md_imagine 185 = .ok (.goto (-160), 3) := by decide +kernel
theorem d_Md_imagine_188 : decode b_Md_imagine 188 = .ok (.iconst 1, 1) := by decide +kernel
theorem d_Md_imagine_189 : decode b_Md_imagine 189 = .ok (.ireturn, 1) := by decide +kernel
theorem d_Md_isReleased_0 : decode b_Md_isReleased 0 = .ok (.iload_n 2, 1) := by decide +kernel
theorem d_Md_isReleased_1 : decode b_Md_isReleased 1 = .ok (.aload_n 0, 1) := by decide +kernel
theorem d_Md_isReleased_2 : decode b_Md_isReleased 2 = .ok (.getfield 19, 3) := by decide +kernel
theorem d_Md_isReleased_5 : decode b_Md_isReleased 5 = .ok (.iload_n 1, 1) := by decide +kernel
theorem d_Md_isReleased_6 : decode b_Md_isReleased 6 = .ok (.iaload, 1) := by decide +kernel
theorem d_Md_isReleased_7 : decode b_Md_isReleased 7 = .ok (.if_icmp .lt 25, 3) := by decide +kernel
theorem d_Md_isReleased_10 : decode b_Md_isReleased 10 = .ok (.iload_n 2, 1) := by decide +kernel
theorem d_Md_isReleased_11 : decode b_Md_isReleased 11 = .ok (.aload_n 0, 1) := by decide +kernel
theorem d_Md_isReleased_12 : decode b_Md_isReleased 12 = .ok (.getfield 19, 3) := by decide +kernel
theorem d_Md_isReleased_15 : decode b_Md_isReleased 15 = .ok (.iload_n 1, 1) := by decide +kernel
theorem d_Md_isReleased_16 : decode b_Md_isReleased 16 = .ok (.iaload, 1) := by decide +kernel
theorem d_Md_isReleased_17 : decode b_Md_isReleased 17 = .ok (.isub, 1) := by decide +kernel
theorem d_Md_isReleased_18 : decode b_Md_isReleased 18 = .ok (.aload_n 0, 1) := by decide +kernel
theorem d_Md_isReleased_19 : decode b_Md_isReleased 19 = .ok (.getfield 7, 3) := by decide +kernel
theorem d_Md_isReleased_22 : decode b_Md_isReleased 22 = .ok (.iload_n 1, 1) := by decide +kernel
theorem d_Md_isReleased_23 : decode b_Md_isReleased 23 = .ok (.iaload, 1) := by decide +kernel
theorem d_Md_isReleased_24 : decode b_Md_isReleased 24 = .ok (.irem, 1) := by decide +kernel
theorem d_Md_isReleased_25 : decode b_Md_isReleased 25 = .ok (.ifCond .ne 7, 3) := by decide +kernel
theorem d_Md_isReleased_28 : decode b_Md_isReleased 28 = .ok (.iconst 1, 1) := by decide +kernel
theorem d_Md_isReleased_29 : decode b_Md_isReleased 29 = .ok (.goto 4, 3) := by decide +kernel
theorem d_Md_isReleased_32 : decode b_Md_isReleased 32 = .ok (.iconst 0, 1) := by decide +kernel
theorem d_Md_isReleased_33 : decode b_Md_isReleased 33 = .ok (.ireturn, 1) := by decide +kernel
theorem d_Md_chosen_0 : decode b_Md_chosen 0 = .ok (.iconst (-1), 1) := by decide +kernel
theorem d_Md_chosen_1 : decode b_Md_chosen 1 = .ok (.istore_n 1, 1) := by decide +kernel
theorem d_Md_chosen_2 : decode b_Md_chosen 2 = .ok (.iconst 0, 1) := by decide +kernel
theorem d_Md_chosen_3 : decode b_Md_chosen 3 = .ok (.istore_n 2, 1) := by decide +kernel
theorem d_Md_chosen_4 : decode b_Md_chosen 4 = .ok (.iload_n 2, 1) := by decide +kernel
theorem d_Md_chosen_5 : decode b_Md_chosen 5 = .ok (.aload_n 0, 1) := by decide +kernel
theorem d_Md_chosen_6 : decode b_Md_chosen 6 = .ok (.getfield 74, 3) := by decide +kernel
theorem d_Md_chosen_9 : decode b_Md_chosen 9 = .ok (.if_icmp .ge 82, 3) := by decide +kernel
theorem d_Md_chosen_12 : decode b_Md_chosen 12 = .ok (.aload_n 0, 1) := by decide +kernel
theorem d_Md_chosen_13 : decode b_Md_chosen 13 = .ok (.getfield 40, 3) := by decide +kernel
theorem d_Md_chosen_16 : decode b_Md_chosen 16 = .ok (.iload_n 2, 1) := by decide +kernel
theorem d_Md_chosen_17 : decode b_Md_chosen 17 = .ok (.baload, 1) := by decide +kernel
theorem d_Md_chosen_18 : decode b_Md_chosen 18 = .ok (.ifCond .eq 22, 3) := by decide +kernel
theorem d_Md_chosen_21 : decode b_Md_chosen 21 = .ok (.aload_n 0, 1) := by decide +kernel
theorem d_Md_chosen_22 : decode b_Md_chosen 22 = .ok (.getfield 47, 3) := by decide +kernel
theorem d_Md_chosen_25 : decode b_Md_chosen 25 = .ok (.iload_n 2, 1) := by decide +kernel
theorem d_Md_chosen_26 : decode b_Md_chosen 26 = .ok (.iaload, 1) := by decide +kernel
theorem d_Md_chosen_27 : decode b_Md_chosen 27 = .ok (.aload_n 0, 1) := by decide +kernel
theorem d_Md_chosen_28 : decode b_Md_chosen 28 = .ok (.getfield 13, 3) := by decide +kernel
theorem d_Md_chosen_31 : decode b_Md_chosen 31 = .ok (.iload_n 2, 1) := by decide +kernel
theorem d_Md_chosen_32 : decode b_Md_chosen 32 = .ok (.iaload, 1) := by decide +kernel
theorem d_Md_chosen_33 : decode b_Md_chosen 33 = .ok (.if_icmp .ge 7, 3) := by decide +kernel
theorem d_Md_chosen_36 : decode b_Md_chosen 36 = .ok (.iconst 1, 1) := by decide +kernel
theorem d_Md_chosen_37 : decode b_Md_chosen 37 = .ok (.goto 4, 3) := by decide +kernel
theorem d_Md_chosen_40 : decode b_Md_chosen 40 = .ok (.iconst 0, 1) := by decide +kernel
theorem d_Md_chosen_41 : decode b_Md_chosen 41 = .ok (.istore_n 3, 1) := by decide +kernel
theorem d_Md_chosen_42 : decode b_Md_chosen 42 = .ok (.iload_n 3, 1) := by decide +kernel
theorem d_Md_chosen_43 : decode b_Md_chosen 43 = .ok (.ifCond .eq 40, 3) := by decide +kernel
theorem d_Md_chosen_46 : decode b_Md_chosen 46 = .ok (.iload_n 1, 1) := by decide +kernel
theorem d_Md_chosen_47 : decode b_Md_chosen 47 = .ok (.ifCond .lt 32, 3) := by decide +kernel
theorem d_Md_chosen_50 : decode b_Md_chosen 50 = .ok (.aload_n 0, 1) := by decide +kernel
theorem d_Md_chosen_51 : decode b_Md_chosen 51 = .ok (.getfield 44, 3) := by decide +kernel
theorem d_Md_chosen_54 : decode b_Md_chosen 54 = .ok (.iload_n 2, 1) := by decide +kernel
theorem d_Md_chosen_55 : decode b_Md_chosen 55 = .ok (.iaload, 1) := by decide +kernel
theorem d_Md_chosen_56 : decode b_Md_chosen 56 = .ok (.aload_n 0, 1) := by decide +kernel
theorem d_Md_chosen_57 : decode b_Md_chosen 57 = .ok (.getfield 16, 3) := by decide +kernel
theorem d_Md_chosen_60 : decode b_Md_chosen 60 = .ok (.iload_n 2, 1) := by decide +kernel
theorem d_Md_chosen_61 : decode b_Md_chosen 61 = .ok (.iaload, 1) := by decide +kernel
theorem d_Md_chosen_62 : decode b_Md_chosen 62 = .ok (.iadd, 1) := by decide +kernel
theorem d_Md_chosen_63 : decode b_Md_chosen 63 = .ok (.aload_n 0, 1) := by decide +kernel
theorem d_Md_chosen_64 : decode b_Md_chosen 64 = .ok (.getfield 44, 3) := by decide +kernel
theorem d_Md_chosen_67 : decode b_Md_chosen 67 = .ok (.iload_n 1, 1) := by decide +kernel
theorem d_Md_chosen_68 : decode b_Md_chosen 68 = .ok (.iaload, 1) := by decide +kernel
theorem d_Md_chosen_69 : decode b_Md_chosen 69 = .ok (.aload_n 0, 1) := by decide +kernel
theorem d_Md_chosen_70 : decode b_Md_chosen 70 = .ok (.getfield 16, 3) := by decide +kernel
theorem d_Md_chosen_73 : decode b_Md_chosen 73 = .ok (.iload_n 1, 1) := by decide +kernel
theorem d_Md_chosen_74 : decode b_Md_chosen 74 = .ok (.iaload, 1) := by decide +kernel
theorem d_Md_chosen_75 : decode b_Md_chosen 75 = .ok (.iadd, 1) := by decide +kernel
theorem d_Md_chosen_76 : decode b_Md_chosen 76 = .ok (.if_icmp .ge 7, 3) := by decide +kernel
theorem d_Md_chosen_79 : decode b_Md_chosen 79 = .ok (.iload_n 2, 1) := by decide +kernel
theorem d_Md_chosen_80 : decode b_Md_chosen 80 = .ok (.goto 4, 3) := by decide +kernel
theorem d_Md_chosen_83 : decode b_Md_chosen 83 = .ok (.iload_n 1, 1) := by decide +kernel
theorem d_Md_chosen_84 : decode b_Md_chosen 84 = .ok (.istore_n 1, 1) := by decide +kernel
theorem d_Md_chosen_85 : decode b_Md_chosen 85 = .ok (.iinc 2 1, 3) := by decide +kernel
theorem d_Md_chosen_88 : decode b_Md_chosen 88 = .ok (.goto (-84), 3) := by decide +kernel
theorem d_Md_chosen_91 : decode b_Md_chosen 91 = .ok (.iload_n 1, 1) := by decide +kernel
theorem d_Md_chosen_92 : decode b_Md_chosen 92 = .ok (.ireturn, 1) := by decide +kernel
theorem d_Md_slot_0 : decode b_Md_slot 0 = .ok (.iload_n 1, 1) := by decide +kernel
theorem d_Md_slot_1 : decode b_Md_slot 1 = .ok (.ifCond .lt 35, 3) := by decide +kernel
theorem d_Md_slot_4 : decode b_Md_slot 4 = .ok (.iload_n 1, 1) := by decide +kernel
theorem d_Md_slot_5 : decode b_Md_slot 5 = .ok (.aload_n 0, 1) := by decide +kernel
theorem d_Md_slot_6 : decode b_Md_slot 6 = .ok (.getfield 77, 3) := by decide +kernel
theorem d_Md_slot_9 : decode b_Md_slot 9 = .ok (.if_icmp .gt 27, 3) := by decide +kernel
theorem d_Md_slot_12 : decode b_Md_slot 12 = .ok (.iload_n 1, 1) := by decide +kernel
theorem d_Md_slot_13 : decode b_Md_slot 13 = .ok (.bipush 60, 2) := by decide +kernel
theorem d_Md_slot_15 : decode b_Md_slot 15 = .ok (.if_icmp .ge 21, 3) := by decide +kernel
theorem d_Md_slot_18 : decode b_Md_slot 18 = .ok (.iload 4, 2) := by decide +kernel
theorem d_Md_slot_20 : decode b_Md_slot 20 = .ok (.ifCond .lt 16, 3) := by decide +kernel
theorem d_Md_slot_23 : decode b_Md_slot 23 = .ok (.iload 4, 2) := by decide +kernel
theorem d_Md_slot_25 : decode b_Md_slot 25 = .ok (.aload_n 0, 1) := by decide +kernel
theorem d_Md_slot_26 : decode b_Md_slot 26 = .ok (.getfield 74, 3) := by decide +kernel
theorem d_Md_slot_29 : decode b_Md_slot 29 = .ok (.if_icmp .ge 7, 3) := by decide +kernel
theorem d_Md_slot_32 : decode b_Md_slot 32 = .ok (.iconst 1, 1) := by decide +kernel
theorem d_Md_slot_33 : decode b_Md_slot 33 = .ok (.goto 4, 3) := by decide +kernel
theorem d_Md_slot_36 : decode b_Md_slot 36 = .ok (.iconst 0, 1) := by decide +kernel
theorem d_Md_slot_37 : decode b_Md_slot 37 = .ok (.istore 5, 2) := by decide +kernel
theorem d_Md_slot_39 : decode b_Md_slot 39 = .ok (.iload_n 2, 1) := by decide +kernel
theorem d_Md_slot_40 : decode b_Md_slot 40 = .ok (.ifCond .lt 26, 3) := by decide +kernel
theorem d_Md_slot_43 : decode b_Md_slot 43 = .ok (.iload_n 2, 1) := by decide +kernel
theorem d_Md_slot_44 : decode b_Md_slot 44 = .ok (.sipush 239, 3) := by decide +kernel
theorem d_Md_slot_47 : decode b_Md_slot 47 = .ok (.if_icmp .gt 19, 3) := by decide +kernel
theorem d_Md_slot_50 : decode b_Md_slot 50 = .ok (.iload_n 3, 1) := by decide +kernel
theorem d_Md_slot_51 : decode b_Md_slot 51 = .ok (.iconst 1, 1) := by decide +kernel
theorem d_Md_slot_52 : decode b_Md_slot 52 = .ok (.if_icmp .lt 14, 3) := by decide +kernel
theorem d_Md_slot_55 : decode b_Md_slot 55 = .ok (.iload_n 3, 1) := by decide +kernel
theorem d_Md_slot_56 : decode b_Md_slot 56 = .ok (.sipush 240, 3) := by decide +kernel
theorem d_Md_slot_59 : decode b_Md_slot 59 = .ok (.if_icmp .gt 7, 3) := by decide +kernel
theorem d_Md_slot_62 : decode b_Md_slot 62 = .ok (.iconst 1, 1) := by decide +kernel
theorem d_Md_slot_63 : decode b_Md_slot 63 = .ok (.goto 4, 3) := by decide +kernel
theorem d_Md_slot_66 : decode b_Md_slot 66 = .ok (.iconst 0, 1) := by decide +kernel
theorem d_Md_slot_67 : decode b_Md_slot 67 = .ok (.istore 6, 2) := by decide +kernel
theorem d_Md_slot_69 : decode b_Md_slot 69 = .ok (.aload_n 0, 1) := by decide +kernel
theorem d_Md_slot_70 : decode b_Md_slot 70 = .ok (.aload_n 0, 1) := by decide +kernel
theorem d_Md_slot_71 : decode b_Md_slot 71 = .ok (.getfield 66, 3) := by decide +kernel
theorem d_Md_slot_74 : decode b_Md_slot 74 = .ok (.ifCond .eq 7, 3) := by decide +kernel
theorem d_Md_slot_77 : decode b_Md_slot 77 = .ok (.iconst 1, 1) := by decide +kernel
theorem d_Md_slot_78 : decode b_Md_slot 78 = .ok (.goto 22, 3) := by decide +kernel
theorem d_Md_slot_81 : decode b_Md_slot 81 = .ok (.iload 5, 2) := by decide +kernel
theorem d_Md_slot_83 : decode b_Md_slot 83 = .ok (.ifCond .ne 7, 3) := by decide +kernel
theorem d_Md_slot_86 : decode b_Md_slot 86 = .ok (.iconst 2, 1) := by decide +kernel
theorem d_Md_slot_87 : decode b_Md_slot 87 = .ok (.goto 13, 3) := by decide +kernel
theorem d_Md_slot_90 : decode b_Md_slot 90 = .ok (.iload 6, 2) := by decide +kernel
theorem d_Md_slot_92 : decode b_Md_slot 92 = .ok (.ifCond .ne 7, 3) := by decide +kernel
theorem d_Md_slot_95 : decode b_Md_slot 95 = .ok (.iconst 3, 1) := by decide +kernel
theorem d_Md_slot_96 : decode b_Md_slot 96 = .ok (.goto 4, 3) := by decide +kernel
theorem d_Md_slot_99 : decode b_Md_slot 99 = .ok (.iconst 0, 1) := by decide +kernel
theorem d_Md_slot_100 : decode b_Md_slot 100 = .ok (.invokevirtual 70, 3) := by decide +kernel
theorem d_Md_slot_103 : decode b_Md_slot 103 = .ok (.ifCond .eq 4, 3) := by decide +kernel
theorem d_Md_slot_106 : decode b_Md_slot 106 = .ok (.return_, 1) := by decide +kernel
theorem d_Md_slot_107 : decode b_Md_slot 107 = .ok (.aload_n 0, 1) := by decide +kernel
theorem d_Md_slot_108 : decode b_Md_slot 108 = .ok (.getfield 25, 3) := by decide +kernel
theorem d_Md_slot_111 : decode b_Md_slot 111 = .ok (.iload_n 1, 1) := by decide +kernel
theorem d_Md_slot_112 : decode b_Md_slot 112 = .ok (.iload_n 2, 1) := by decide +kernel
theorem d_Md_slot_113 : decode b_Md_slot 113 = .ok (.iastore, 1) := by decide +kernel
theorem d_Md_slot_114 : decode b_Md_slot 114 = .ok (.aload_n 0, 1) := by decide +kernel
theorem d_Md_slot_115 : decode b_Md_slot 115 = .ok (.getfield 28, 3) := by decide +kernel
theorem d_Md_slot_118 : decode b_Md_slot 118 = .ok (.iload_n 1, 1) := by decide +kernel
theorem d_Md_slot_119 : decode b_Md_slot 119 = .ok (.iload_n 3, 1) := by decide +kernel
theorem d_Md_slot_120 : decode b_Md_slot 120 = .ok (.iastore, 1) := by decide +kernel
theorem d_Md_slot_121 : decode b_Md_slot 121 = .ok (.aload_n 0, 1) := by decide +kernel
theorem d_Md_slot_122 : decode b_Md_slot 122 = .ok (.getfield 31, 3) := by decide +kernel
theorem d_Md_slot_125 : decode b_Md_slot 125 = .ok (.iload_n 1, 1) := by decide +kernel
theorem d_Md_slot_126 : decode b_Md_slot 126 = .ok (.iload 4, 2) := by decide +kernel
theorem d_Md_slot_128 : decode b_Md_slot 128 = .ok (.iastore, 1) := by decide +kernel
theorem d_Md_slot_129 : decode b_Md_slot 129 = .ok (.aload_n 0, 1) := by decide +kernel
theorem d_Md_slot_130 : decode b_Md_slot 130 = .ok (.iload_n 1, 1) := by decide +kernel
theorem d_Md_slot_131 : decode b_Md_slot 131 = .ok (.aload_n 0, 1) := by decide +kernel
theorem d_Md_slot_132 : decode b_Md_slot 132 = .ok (.getfield 77, 3) := by decide +kernel
theorem d_Md_slot_135 : decode b_Md_slot 135 = .ok (.if_icmp .ne 12, 3) := by decide +kernel
theorem d_Md_slot_138 : decode b_Md_slot 138 = .ok (.aload_n 0, 1) := by decide +kernel
theorem d_Md_slot_139 : decode b_Md_slot 139 = .ok (.getfield 77, 3) := by decide +kernel
theorem d_Md_slot_142 : decode b_Md_slot 142 = .ok (.iconst 1, 1) := by decide +kernel
theorem d_Md_slot_143 : decode b_Md_slot 143 = .ok (.iadd, 1) := by decide +kernel
theorem d_Md_slot_144 : decode b_Md_slot 144 = .ok (.goto 7, 3) := by decide +kernel
theorem d_Md_slot_147 : decode b_Md_slot 147 = .ok (.aload_n 0, 1) := by decide +kernel
theorem d_Md_slot_148 : decode b_Md_slot 148 = .ok (.getfield 77, 3) := by decide +kernel
theorem d_Md_slot_151 : decode b_Md_slot 151 = .ok (.putfield 77, 3) := by decide +kernel
theorem d_Md_slot_154 : decode b_Md_slot 154 = .ok (.return_, 1) := by decide +kernel
theorem d_Md_drop_0 : decode b_Md_drop 0 = .ok (.aload_n 0, 1) := by decide +kernel
theorem d_Md_drop_1 : decode b_Md_drop 1 = .ok (.aload_n 0, 1) := by decide +kernel
theorem d_Md_drop_2 : decode b_Md_drop 2 = .ok (.getfield 66, 3) := by decide +kernel
theorem d_Md_drop_5 : decode b_Md_drop 5 = .ok (.ifCond .ne 10, 3) := by decide +kernel
theorem d_Md_drop_8 : decode b_Md_drop 8 = .ok (.aload_n 0, 1) := by decide +kernel
theorem d_Md_drop_9 : decode b_Md_drop 9 = .ok (.getfield 77, 3) := by decide +kernel
theorem d_Md_drop_12 : decode b_Md_drop 12 = .ok (.ifCond .ne 7, 3) := by decide +kernel
theorem d_Md_drop_15 : decode b_Md_drop 15 = .ok (.iconst 1, 1) := by decide +kernel
theorem d_Md_drop_16 : decode b_Md_drop 16 = .ok (.goto 4, 3) := by decide +kernel
theorem d_Md_drop_19 : decode b_Md_drop 19 = .ok (.iconst 0, 1) := by decide +kernel
theorem d_Md_drop_20 : decode b_Md_drop 20 = .ok (.invokevirtual 70, 3) := by decide +kernel
theorem d_Md_drop_23 : decode b_Md_drop 23 = .ok (.ifCond .ne 13, 3) := by decide +kernel
theorem d_Md_drop_26 : decode b_Md_drop 26 = .ok (.aload_n 0, 1) := by decide +kernel
theorem d_Md_drop_27 : decode b_Md_drop 27 = .ok (.dup, 1) := by decide +kernel
theorem d_Md_drop_28 : decode b_Md_drop 28 = .ok (.getfield 77, 3) := by decide +kernel
theorem d_Md_drop_31 : decode b_Md_drop 31 = .ok (.iconst 1, 1) := by decide +kernel
theorem d_Md_drop_32 : decode b_Md_drop 32 = .ok (.isub, 1) := by decide +kernel
theorem d_Md_drop_33 : decode b_Md_drop 33 = .ok (.putfield 77, 3) := by decide +kernel
theorem d_Md_drop_36 : decode b_Md_drop 36 = .ok (.return_, 1) := by decide +kernel
theorem d_Md_slots_0 : decode b_Md_slots 0 = .ok (.aload_n 0, 1) := by decide +kernel
theorem d_Md_slots_1 : decode b_Md_slots 1 = .ok (.iconst 0, 1) := by decide +kernel
theorem d_Md_slots_2 : decode b_Md_slots 2 = .ok (.putfield 62, 3) := by decide +kernel
theorem d_Md_slots_5 : decode b_Md_slots 5 = .ok (.aload_n 0, 1) := by decide +kernel
theorem d_Md_slots_6 : decode b_Md_slots 6 = .ok (.getfield 77, 3) := by decide +kernel
theorem d_Md_slots_9 : decode b_Md_slots 9 = .ok (.ireturn, 1) := by decide +kernel
theorem d_Md_slotOf_0 : decode b_Md_slotOf 0 = .ok (.aload_n 0, 1) := by decide +kernel
theorem d_Md_slotOf_1 : decode b_Md_slotOf 1 = .ok (.iload_n 1, 1) := by decide +kernel
theorem d_Md_slotOf_2 : decode b_Md_slotOf 2 = .ok (.ifCond .lt 20, 3) := by decide +kernel
theorem d_Md_slotOf_5 : decode b_Md_slotOf 5 = .ok (.iload_n 1, 1) := by decide +kernel
theorem d_Md_slotOf_6 : decode b_Md_slotOf 6 = .ok (.aload_n 0, 1) := by decide +kernel
theorem d_Md_slotOf_7 : decode b_Md_slotOf 7 = .ok (.getfield 77, 3) := by decide +kernel
theorem d_Md_slotOf_10 : decode b_Md_slotOf 10 = .ok (.if_icmp .ge 12, 3) := by decide +kernel
theorem d_Md_slotOf_13 : decode b_Md_slotOf 13 = .ok (.iload_n 2, 1) := by decide +kernel
theorem d_Md_slotOf_14 : decode b_Md_slotOf 14 = .ok (.ifCond .lt 8, 3) := by decide +kernel
theorem d_Md_slotOf_17 : decode b_Md_slotOf 17 = .ok (.iload_n 2, 1) := by decide +kernel
theorem d_Md_slotOf_18 : decode b_Md_slotOf 18 = .ok (.iconst 2, 1) := by decide +kernel
theorem d_Md_slotOf_19 : decode b_Md_slotOf 19 = .ok (.if_icmp .le 7, 3) := by decide +kernel
theorem d_Md_slotOf_22 : decode b_Md_slotOf 22 = .ok (.iconst 1, 1) := by decide +kernel
theorem d_Md_slotOf_23 : decode b_Md_slotOf 23 = .ok (.goto 4, 3) := by decide +kernel
theorem d_Md_slotOf_26 : decode b_Md_slotOf 26 = .ok (.iconst 0, 1) := by decide +kernel
theorem d_Md_slotOf_27 : decode b_Md_slotOf 27 = .ok (.invokevirtual 70, 3) := by decide +kernel
theorem d_Md_slotOf_30 : decode b_Md_slotOf 30 = .ok (.ifCond .eq 5, 3) := by decide +kernel
theorem d_Md_slotOf_33 : decode b_Md_slotOf 33 = .ok (.iconst 0, 1) := by decide +kernel
theorem d_Md_slotOf_34 : decode b_Md_slotOf 34 = .ok (.ireturn, 1) := by decide +kernel
theorem d_Md_slotOf_35 : decode b_Md_slotOf 35 = .ok (.iload_n 2, 1) := by decide +kernel
theorem d_Md_slotOf_36 : decode b_Md_slotOf 36 = .ok (.ifCond .ne 12, 3) := by decide +kernel
theorem d_Md_slotOf_39 : decode b_Md_slotOf 39 = .ok (.aload_n 0, 1) := by decide +kernel
theorem d_Md_slotOf_40 : decode b_Md_slotOf 40 = .ok (.getfield 25, 3) := by decide +kernel
theorem d_Md_slotOf_43 : decode b_Md_slotOf 43 = .ok (.iload_n 1, 1) := by decide +kernel
theorem d_Md_slotOf_44 : decode b_Md_slotOf 44 = .ok (.iaload, 1) := by decide +kernel
theorem d_Md_slotOf_45 : decode b_Md_slotOf 45 = .ok (.goto 23, 3) := by decide +kernel
theorem d_Md_slotOf_48 : decode b_Md_slotOf 48 = .ok (.iload_n 2, 1) := by decide +kernel
theorem d_Md_slotOf_49 : decode b_Md_slotOf 49 = .ok (.iconst 1, 1) := by decide +kernel
theorem d_Md_slotOf_50 : decode b_Md_slotOf 50 = .ok (.if_icmp .ne 12, 3) := by decide +kernel
theorem d_Md_slotOf_53 : decode b_Md_slotOf 53 = .ok (.aload_n 0, 1) := by decide +kernel
theorem d_Md_slotOf_54 : decode b_Md_slotOf 54 = .ok (.getfield 28, 3) := by decide +kernel
theorem d_Md_slotOf_57 : decode b_Md_slotOf 57 = .ok (.iload_n 1, 1) := by decide +kernel
theorem d_Md_slotOf_58 : decode b_Md_slotOf 58 = .ok (.iaload, 1) := by decide +kernel
theorem d_Md_slotOf_59 : decode b_Md_slotOf 59 = .ok (.goto 9, 3) := by decide +kernel
theorem d_Md_slotOf_62 : decode b_Md_slotOf 62 = .ok (.aload_n 0, 1) := by decide +kernel
theorem d_Md_slotOf_63 : decode b_Md_slotOf 63 = .ok (.getfield 31, 3) := by decide +kernel
theorem d_Md_slotOf_66 : decode b_Md_slotOf 66 = .ok (.iload_n 1, 1) := by decide +kernel
theorem d_Md_slotOf_67 : decode b_Md_slotOf 67 = .ok (.iaload, 1) := by decide +kernel
theorem d_Md_slotOf_68 : decode b_Md_slotOf 68 = .ok (.ireturn, 1) := by decide +kernel
theorem d_Md_check_0 : decode b_Md_check 0 = .ok (.aload_n 0, 1) := by decide +kernel
theorem d_Md_check_1 : decode b_Md_check 1 = .ok (.aload_n 0, 1) := by decide +kernel
theorem d_Md_check_2 : decode b_Md_check 2 = .ok (.getfield 66, 3) := by decide +kernel
theorem d_Md_check_5 : decode b_Md_check 5 = .ok (.ifCond .eq 7, 3) := by decide +kernel
theorem d_Md_check_8 : decode b_Md_check 8 = .ok (.iconst 1, 1) := by decide +kernel
theorem d_Md_check_9 : decode b_Md_check 9 = .ok (.goto 4, 3) := by decide +kernel
theorem d_Md_check_12 : decode b_Md_check 12 = .ok (.iconst 0, 1) := by decide +kernel
theorem d_Md_check_13 : decode b_Md_check 13 = .ok (.invokevirtual 70, 3) := by decide +kernel
theorem d_Md_check_16 : decode b_Md_check 16 = .ok (.ifCond .ne 10, 3) := by decide +kernel
theorem d_Md_check_19 : decode b_Md_check 19 = .ok (.aload_n 0, 1) := by decide +kernel
theorem d_Md_check_20 : decode b_Md_check 20 = .ok (.invokevirtual 107, 3) := by decide +kernel
theorem d_Md_check_23 : decode b_Md_check 23 = .ok (.ifCond .ne 5, 3) := by decide +kernel
theorem d_Md_check_26 : decode b_Md_check 26 = .ok (.iconst 0, 1) := by decide +kernel
theorem d_Md_check_27 : decode b_Md_check 27 = .ok (.ireturn, 1) := by decide +kernel
theorem d_Md_check_28 : decode b_Md_check 28 = .ok (.aload_n 0, 1) := by decide +kernel
theorem d_Md_check_29 : decode b_Md_check 29 = .ok (.iconst 1, 1) := by decide +kernel
theorem d_Md_check_30 : decode b_Md_check 30 = .ok (.putfield 66, 3) := by decide +kernel
theorem d_Md_check_33 : decode b_Md_check 33 = .ok (.aload_n 0, 1) := by decide +kernel
theorem d_Md_check_34 : decode b_Md_check 34 = .ok (.iconst 0, 1) := by decide +kernel
theorem d_Md_check_35 : decode b_Md_check 35 = .ok (.putfield 111, 3) := by decide +kernel
theorem d_Md_check_38 : decode b_Md_check 38 = .ok (.iconst 0, 1) := by decide +kernel
theorem d_Md_check_39 : decode b_Md_check 39 = .ok (.istore_n 1, 1) := by decide +kernel
theorem d_Md_check_40 : decode b_Md_check 40 = .ok (.iload_n 1, 1) := by decide +kernel
theorem d_Md_check_41 : decode b_Md_check 41 = .ok (.bipush 16, 2) := by decide +kernel
theorem d_Md_check_43 : decode b_Md_check 43 = .ok (.if_icmp .ge 16, 3) := by decide +kernel
theorem d_Md_check_46 : decode b_Md_check 46 = .ok (.aload_n 0, 1) := by decide +kernel
theorem d_Md_check_47 : decode b_Md_check 47 = .ok (.getfield 37, 3) := by decide +kernel
theorem d_Md_check_50 : decode b_Md_check 50 = .ok (.iload_n 1, 1) := by decide +kernel
theorem d_Md_check_51 : decode b_Md_check 51 = .ok (.iconst 0, 1) := by decide +kernel
theorem d_Md_check_52 : decode b_Md_check 52 = .ok (.iastore, 1) := by decide +kernel
theorem d_Md_check_53 : decode b_Md_check 53 = .ok (.iinc 1 1, 3) := by decide +kernel
theorem d_Md_check_56 : decode b_Md_check 56 = .ok (.goto (-16), 3) := by decide +kernel
theorem d_Md_check_59 : decode b_Md_check 59 = .ok (.iconst 0, 1) := by decide +kernel
theorem d_Md_check_60 : decode b_Md_check 60 = .ok (.istore_n 1, 1) := by decide +kernel
theorem d_Md_check_61 : decode b_Md_check 61 = .ok (.iload_n 1, 1) := by decide +kernel
theorem d_Md_check_62 : decode b_Md_check 62 = .ok (.bipush 24, 2) := by decide +kernel
theorem d_Md_check_64 : decode b_Md_check 64 = .ok (.if_icmp .ge 16, 3) := by decide +kernel
theorem d_Md_check_67 : decode b_Md_check 67 = .ok (.aload_n 0, 1) := by decide +kernel
theorem d_Md_check_68 : decode b_Md_check 68 = .ok (.getfield 56, 3) := by decide +kernel
theorem d_Md_check_71 : decode b_Md_check 71 = .ok (.iload_n 1, 1) := by decide +kernel
theorem d_Md_check_72 : decode b_Md_check 72 = .ok (.iconst 0, 1) := by decide +kernel
theorem d_Md_check_73 : decode b_Md_check 73 = .ok (.iastore, 1) := by decide +kernel
theorem d_Md_check_74 : decode b_Md_check 74 = .ok (.iinc 1 1, 3) := by decide +kernel
theorem d_Md_check_77 : decode b_Md_check 77 = .ok (.goto (-16), 3) := by decide +kernel
theorem d_Md_check_80 : decode b_Md_check 80 = .ok (.iconst 0, 1) := by decide +kernel
theorem d_Md_check_81 : decode b_Md_check 81 = .ok (.istore_n 1, 1) := by decide +kernel
theorem d_Md_check_82 : decode b_Md_check 82 = .ok (.iload_n 1, 1) := by decide +kernel
theorem d_Md_check_83 : decode b_Md_check 83 = .ok (.bipush 6, 2) := by decide +kernel
theorem d_Md_check_85 : decode b_Md_check 85 = .ok (.if_icmp .ge 16, 3) := by decide +kernel
theorem d_Md_check_88 : decode b_Md_check 88 = .ok (.aload_n 0, 1) := by decide +kernel
theorem d_Md_check_89 : decode b_Md_check 89 = .ok (.getfield 40, 3) := by decide +kernel
theorem d_Md_check_92 : decode b_Md_check 92 = .ok (.iload_n 1, 1) := by decide +kernel
theorem d_Md_check_93 : decode b_Md_check 93 = .ok (.iconst 0, 1) := by decide +kernel
theorem d_Md_check_94 : decode b_Md_check 94 = .ok (.bastore, 1) := by decide +kernel
theorem d_Md_check_95 : decode b_Md_check 95 = .ok (.iinc 1 1, 3) := by decide +kernel
theorem d_Md_check_98 : decode b_Md_check 98 = .ok (.goto (-16), 3) := by decide +kernel
theorem d_Md_check_101 : decode b_Md_check 101 = .ok (.iconst 1, 1) := by decide +kernel
theorem d_Md_check_102 : decode b_Md_check 102 = .ok (.ireturn, 1) := by decide +kernel
theorem d_Md_isGood_0 : decode b_Md_isGood 0 = .ok (.aload_n 0, 1) := by decide +kernel
theorem d_Md_isGood_1 : decode b_Md_isGood 1 = .ok (.invokevirtual 80, 3) := by decide +kernel
theorem d_Md_isGood_4 : decode b_Md_isGood 4 = .ok (.istore_n 1, 1) := by decide +kernel
theorem d_Md_isGood_5 : decode b_Md_isGood 5 = .ok (.iload_n 1, 1) := by decide +kernel
theorem d_Md_isGood_6 : decode b_Md_isGood 6 = .ok (.sipush 240, 3) := by decide +kernel
theorem d_Md_isGood_9 : decode b_Md_isGood 9 = .ok (.if_icmp .gt 7, 3) := by decide +kernel
theorem d_Md_isGood_12 : decode b_Md_isGood 12 = .ok (.iconst 1, 1) := by decide +kernel
theorem d_Md_isGood_13 : decode b_Md_isGood 13 = .ok (.goto 4, 3) := by decide +kernel
theorem d_Md_isGood_16 : decode b_Md_isGood 16 = .ok (.iconst 0, 1) := by decide +kernel
theorem d_Md_isGood_17 : decode b_Md_isGood 17 = .ok (.istore_n 2, 1) := by decide +kernel
theorem d_Md_isGood_18 : decode b_Md_isGood 18 = .ok (.iconst 0, 1) := by decide +kernel
theorem d_Md_isGood_19 : decode b_Md_isGood 19 = .ok (.istore_n 3, 1) := by decide +kernel
theorem d_Md_isGood_20 : decode b_Md_isGood 20 = .ok (.iload_n 3, 1) := by decide +kernel
theorem d_Md_isGood_21 : decode b_Md_isGood 21 = .ok (.aload_n 0, 1) := by decide +kernel
theorem d_Md_isGood_22 : decode b_Md_isGood 22 = .ok (.getfield 77, 3) := by decide +kernel
theorem d_Md_isGood_25 : decode b_Md_isGood 25 = .ok (.if_icmp .ge 36, 3) := by decide +kernel
theorem d_Md_isGood_28 : decode b_Md_isGood 28 = .ok (.iload_n 2, 1) := by decide +kernel
theorem d_Md_isGood_29 : decode b_Md_isGood 29 = .ok (.ifCond .eq 24, 3) := by decide +kernel
theorem d_Md_isGood_32 : decode b_Md_isGood 32 = .ok (.aload_n 0, 1) := by decide +kernel
theorem d_Md_isGood_33 : decode b_Md_isGood 33 = .ok (.getfield 25, 3) := by decide +kernel
theorem d_Md_isGood_36 : decode b_Md_isGood 36 = .ok (.iload_n 3, 1) := by decide +kernel
theorem d_Md_isGood_37 : decode b_Md_isGood 37 = .ok (.iaload, 1) := by decide +kernel
theorem d_Md_isGood_38 : decode b_Md_isGood 38 = .ok (.aload_n 0, 1) := by decide +kernel
theorem d_Md_isGood_39 : decode b_Md_isGood 39 = .ok (.getfield 28, 3) := by decide +kernel
theorem d_Md_isGood_42 : decode b_Md_isGood 42 = .ok (.iload_n 3, 1) := by decide +kernel
theorem d_Md_isGood_43 : decode b_Md_isGood 43 = .ok (.iaload, 1) := by decide +kernel
theorem d_Md_isGood_44 : decode b_Md_isGood 44 = .ok (.iadd, 1) := by decide +kernel
theorem d_Md_isGood_45 : decode b_Md_isGood 45 = .ok (.iload_n 1, 1) := by decide +kernel
theorem d_Md_isGood_46 : decode b_Md_isGood 46 = .ok (.if_icmp .gt 7, 3) := by decide +kernel
theorem d_Md_isGood_49 : decode b_Md_isGood 49 = .ok (.iconst 1, 1) := by decide +kernel
theorem d_Md_isGood_50 : decode b_Md_isGood 50 = .ok (.goto 4, 3) := by decide +kernel
theorem d_Md_isGood_53 : decode b_Md_isGood 53 = .ok (.iconst 0, 1) := by decide +kernel
theorem d_Md_isGood_54 : decode b_Md_isGood 54 = .ok (.istore_n 2, 1) := by decide +kernel
theorem d_Md_isGood_55 : decode b_Md_isGood 55 = .ok (.iinc 3 1, 3) := by decide +kernel
theorem d_Md_isGood_58 : decode b_Md_isGood 58 = .ok (.goto (-38), 3) := by decide +kernel
theorem d_Md_isGood_61 : decode b_Md_isGood 61 = .ok (.iconst 0, 1) := by decide +kernel
theorem d_Md_isGood_62 : decode b_Md_isGood 62 = .ok (.istore_n 3, 1) := by decide +kernel
theorem d_Md_isGood_63 : decode b_Md_isGood 63 = .ok (.iload_n 3, 1) := by decide +kernel
theorem d_Md_isGood_64 : decode b_Md_isGood 64 = .ok (.iload_n 1, 1) := by decide +kernel
theorem d_Md_isGood_65 : decode b_Md_isGood 65 = .ok (.if_icmp .ge 28, 3) := by decide +kernel
theorem d_Md_isGood_68 : decode b_Md_isGood 68 = .ok (.iload_n 2, 1) := by decide +kernel
theorem d_Md_isGood_69 : decode b_Md_isGood 69 = .ok (.ifCond .eq 24, 3) := by decide +kernel
theorem d_Md_isGood_72 : decode b_Md_isGood 72 = .ok (.aload_n 0, 1) := by decide +kernel
theorem d_Md_isGood_73 : decode b_Md_isGood 73 = .ok (.iload_n 3, 1) := by decide +kernel
theorem d_Md_isGood_74 : decode b_Md_isGood 74 = .ok (.invokevirtual 101, 3) := by decide +kernel
theorem d_Md_isGood_77 : decode b_Md_isGood 77 = .ok (.iconst 2, 1) := by decide +kernel
theorem d_Md_isGood_78 : decode b_Md_isGood 78 = .ok (.if_icmp .ge 7, 3) := by decide +kernel
theorem d_Md_isGood_81 : decode b_Md_isGood 81 = .ok (.iconst 1, 1) := by decide +kernel
theorem d_Md_isGood_82 : decode b_Md_isGood 82 = .ok (.goto 4, 3) := by decide +kernel
theorem d_Md_isGood_85 : decode b_Md_isGood 85 = .ok (.iconst 0, 1) := by decide +kernel
theorem d_Md_isGood_86 : decode b_Md_isGood 86 = .ok (.istore_n 2, 1) := by decide +kernel
theorem d_Md_isGood_87 : decode b_Md_isGood 87 = .ok (.iinc 3 1, 3) := by decide +kernel
theorem d_Md_isGood_90 : decode b_Md_isGood 90 = .ok (.goto (-27), 3) := by decide +kernel
theorem d_Md_isGood_93 : decode b_Md_isGood 93 = .ok (.iconst 0, 1) := by decide +kernel
theorem d_Md_isGood_94 : decode b_Md_isGood 94 = .ok (.istore_n 3, 1) := by decide +kernel
theorem d_Md_isGood_95 : decode b_Md_isGood 95 = .ok (.iload_n 3, 1) := by decide +kernel
theorem d_Md_isGood_96 : decode b_Md_isGood 96 = .ok (.aload_n 0, 1) := by decide +kernel
theorem d_Md_isGood_97 : decode b_Md_isGood 97 = .ok (.getfield 74, 3) := by decide +kernel
theorem d_Md_isGood_100 : decode b_Md_isGood 100 = .ok (.if_icmp .ge 20, 3) := by decide +kernel
theorem d_Md_isGood_103 : decode b_Md_isGood 103 = .ok (.iload_n 2, 1) := by decide +kernel
theorem d_Md_isGood_104 : decode b_Md_isGood 104 = .ok (.ifCond .eq 16, 3) := by decide +kernel
theorem d_Md_isGood_107 : decode b_Md_isGood 107 = .ok (.aload_n 0, 1) := by decide +kernel
theorem d_Md_isGood_108 : decode b_Md_isGood 108 = .ok (.iload_n 3, 1) := by decide +kernel
theorem d_Md_isGood_109 : decode b_Md_isGood 109 = .ok (.iload_n 1, 1) := by decide +kernel
theorem d_Md_isGood_110 : decode b_Md_isGood 110 = .ok (.invokevirtual 104, 3) := by decide +kernel
theorem d_Md_isGood_113 : decode b_Md_isGood 113 = .ok (.istore_n 2, 1) := by decide +kernel
theorem d_Md_isGood_114 : decode b_Md_isGood 114 = .ok (.iinc 3 1, 3) := by decide +kernel
theorem d_Md_isGood_117 : decode b_Md_isGood 117 = .ok (.goto (-22), 3) := by decide +kernel
theorem d_Md_isGood_120 : decode b_Md_isGood 120 = .ok (.iload_n 2, 1) := by decide +kernel
theorem d_Md_isGood_121 : decode b_Md_isGood 121 = .ok (.ireturn, 1) := by decide +kernel
theorem d_Md_covering_0 : decode b_Md_covering 0 = .ok (.iconst 0, 1) := by decide +kernel
theorem d_Md_covering_1 : decode b_Md_covering 1 = .ok (.istore_n 2, 1) := by decide +kernel
theorem d_Md_covering_2 : decode b_Md_covering 2 = .ok (.iconst 0, 1) := by decide +kernel
theorem d_Md_covering_3 : decode b_Md_covering 3 = .ok (.istore_n 3, 1) := by decide +kernel
theorem d_Md_covering_4 : decode b_Md_covering 4 = .ok (.iload_n 3, 1) := by decide +kernel
theorem d_Md_covering_5 : decode b_Md_covering 5 = .ok (.aload_n 0, 1) := by decide +kernel
theorem d_Md_covering_6 : decode b_Md_covering 6 = .ok (.getfield 77, 3) := by decide +kernel
theorem d_Md_covering_9 : decode b_Md_covering 9 = .ok (.if_icmp .ge 44, 3) := by decide +kernel
theorem d_Md_covering_12 : decode b_Md_covering 12 = .ok (.iload_n 1, 1) := by decide +kernel
theorem d_Md_covering_13 : decode b_Md_covering 13 = .ok (.aload_n 0, 1) := by decide +kernel
theorem d_Md_covering_14 : decode b_Md_covering 14 = .ok (.getfield 25, 3) := by decide +kernel
theorem d_Md_covering_17 : decode b_Md_covering 17 = .ok (.iload_n 3, 1) := by decide +kernel
theorem d_Md_covering_18 : decode b_Md_covering 18 = .ok (.iaload, 1) := by decide +kernel
theorem d_Md_covering_19 : decode b_Md_covering 19 = .ok (.if_icmp .lt 26, 3) := by decide +kernel
theorem d_Md_covering_22 : decode b_Md_covering 22 = .ok (.iload_n 1, 1) := by decide +kernel
theorem d_Md_covering_23 : decode b_Md_covering 23 = .ok (.aload_n 0, 1) := by decide +kernel
theorem d_Md_covering_24 : decode b_Md_covering 24 = .ok (.getfield 25, 3) := by decide +kernel
theorem d_Md_covering_27 : decode b_Md_covering 27 = .ok (.iload_n 3, 1) := by decide +kernel
theorem d_Md_covering_28 : decode b_Md_covering 28 = .ok (.iaload, 1) := by decide +kernel
theorem d_Md_covering_29 : decode b_Md_covering 29 = .ok (.aload_n 0, 1) := by decide +kernel
theorem d_Md_covering_30 : decode b_Md_covering 30 = .ok (.getfield 28, 3) := by decide +kernel
theorem d_Md_covering_33 : decode b_Md_covering 33 = .ok (.iload_n 3, 1) := by decide +kernel
theorem d_Md_covering_34 : decode b_Md_covering 34 = .ok (.iaload, 1) := by decide +kernel
theorem d_Md_covering_35 : decode b_Md_covering 35 = .ok (.iadd, 1) := by decide +kernel
theorem d_Md_covering_36 : decode b_Md_covering 36 = .ok (.if_icmp .ge 9, 3) := by decide +kernel
theorem d_Md_covering_39 : decode b_Md_covering 39 = .ok (.iload_n 2, 1) := by decide +kernel
theorem d_Md_covering_40 : decode b_Md_covering 40 = .ok (.iconst 1, 1) := by decide +kernel
theorem d_Md_covering_41 : decode b_Md_covering 41 = .ok (.iadd, 1) := by decide +kernel
theorem d_Md_covering_42 : decode b_Md_covering 42 = .ok (.goto 4, 3) := by decide +kernel
theorem d_Md_covering_45 : decode b_Md_covering 45 = .ok (.iload_n 2, 1) := by decide +kernel
theorem d_Md_covering_46 : decode b_Md_covering 46 = .ok (.istore_n 2, 1) := by decide +kernel
theorem d_Md_covering_47 : decode b_Md_covering 47 = .ok (.iinc 3 1, 3) := by decide +kernel
theorem d_Md_covering_50 : decode b_Md_covering 50 = .ok (.goto (-46), 3) := by decide +kernel
theorem d_Md_covering_53 : decode b_Md_covering 53 = .ok (.iload_n 2, 1) := by decide +kernel
theorem d_Md_covering_54 : decode b_Md_covering 54 = .ok (.ireturn, 1) := by decide +kernel
theorem d_Md_isServed_0 : decode b_Md_isServed 0 = .ok (.iconst 1, 1) := by decide +kernel
theorem d_Md_isServed_1 : decode b_Md_isServed 1 = .ok (.istore_n 3, 1) := by decide +kernel
theorem d_Md_isServed_2 : decode b_Md_isServed 2 = .ok (.iconst 0, 1) := by decide +kernel
theorem d_Md_isServed_3 : decode b_Md_isServed 3 = .ok (.istore 4, 2) := by decide +kernel
theorem d_Md_isServed_5 : decode b_Md_isServed 5 = .ok (.iconst 0, 1) := by decide +kernel
theorem d_Md_isServed_6 : decode b_Md_isServed 6 = .ok (.istore 5, 2) := by decide +kernel
theorem d_Md_isServed_8 : decode b_Md_isServed 8 = .ok (.iload 5, 2) := by decide +kernel
theorem d_Md_isServed_10 : decode b_Md_isServed 10 = .ok (.iload_n 2, 1) := by decide +kernel
theorem d_Md_isServed_11 : decode b_Md_isServed 11 = .ok (.aload_n 0, 1) := by decide +kernel
theorem d_Md_isServed_12 : decode b_Md_isServed 12 = .ok (.getfield 7, 3) := by decide +kernel
theorem d_Md_isServed_15 : decode b_Md_isServed 15 = .ok (.iload_n 1, 1) := by decide +kernel
theorem d_Md_isServed_16 : decode b_Md_isServed 16 = .ok (.iaload, 1) := by decide +kernel
theorem d_Md_isServed_17 : decode b_Md_isServed 17 = .ok (.idiv, 1) := by decide +kernel
theorem d_Md_isServed_18 : decode b_Md_isServed 18 = .ok (.if_icmp .ge 100, 3) := by decide +kernel
theorem d_Md_isServed_21 : decode b_Md_isServed 21 = .ok (.iconst 0, 1) := by decide +kernel
theorem d_Md_isServed_22 : decode b_Md_isServed 22 = .ok (.istore 6, 2) := by decide +kernel
theorem d_Md_isServed_24 : decode b_Md_isServed 24 = .ok (.iconst 0, 1) := by decide +kernel
theorem d_Md_isServed_25 : decode b_Md_isServed 25 = .ok (.istore 7, 2) := by decide +kernel
theorem d_Md_isServed_27 : decode b_Md_isServed 27 = .ok (.iload 7, 2) := by decide +kernel
theorem d_Md_isServed_29 : decode b_Md_isServed 29 = .ok (.aload_n 0, 1) := by decide +kernel
theorem d_Md_isServed_30 : decode b_Md_isServed 30 = .ok (.getfield 16, 3) := by decide +kernel
theorem d_Md_isServed_33 : decode b_Md_isServed 33 = .ok (.iload_n 1, 1) := by decide +kernel
theorem d_Md_isServed_34 : decode b_Md_isServed 34 = .ok (.iaload, 1) := by decide +kernel
theorem d_Md_isServed_35 : decode b_Md_isServed 35 = .ok (.if_icmp .ge 49, 3) := by decide +kernel
theorem d_Md_isServed_38 : decode b_Md_isServed 38 = .ok (.aload_n 0, 1) := by decide +kernel
theorem d_Md_isServed_39 : decode b_Md_isServed 39 = .ok (.aload_n 0, 1) := by decide +kernel
theorem d_Md_isServed_40 : decode b_Md_isServed 40 = .ok (.getfield 19, 3) := by decide +kernel
theorem d_Md_isServed_43 : decode b_Md_isServed 43 = .ok (.iload_n 1, 1) := by decide +kernel
theorem d_Md_isServed_44 : decode b_Md_isServed 44 = .ok (.iaload, 1) := by decide +kernel
theorem d_Md_isServed_45 : decode b_Md_isServed 45 = .ok (.iload 5, 2) := by decide +kernel
theorem d_Md_isServed_47 : decode b_Md_isServed 47 = .ok (.aload_n 0, 1) := by decide +kernel
theorem d_Md_isServed_48 : decode b_Md_isServed 48 = .ok (.getfield 7, 3) := by decide +kernel
theorem d_Md_isServed_51 : decode b_Md_isServed 51 = .ok (.iload_n 1, 1) := by decide +kernel
theorem d_Md_isServed_52 : decode b_Md_isServed 52 = .ok (.iaload, 1) := by decide +kernel
theorem d_Md_isServed_53 : decode b_Md_isServed 53 = .ok (.imul, 1) := by decide +kernel
theorem d_Md_isServed_54 : decode b_Md_isServed 54 = .ok (.iadd, 1) := by decide +kernel
theorem d_Md_isServed_55 : decode b_Md_isServed 55 = .ok (.iload 7, 2) := by decide +kernel
theorem d_Md_isServed_57 : decode b_Md_isServed 57 = .ok (.iadd, 1) := by decide +kernel
theorem d_Md_isServed_58 : decode b_Md_isServed 58 = .ok (.iload_n 2, 1) := by decide +kernel
theorem d_Md_isServed_59 : decode b_Md_isServed 59 = .ok (.irem, 1) := by decide +kernel
theorem d_Md_isServed_60 : decode b_Md_isServed 60 = .ok (.invokevirtual 97, 3) := by decide +kernel
theorem d_Md_isServed_63 : decode b_Md_isServed 63 = .ok (.iload_n 1, 1) := by decide +kernel
theorem d_Md_isServed_64 : decode b_Md_isServed 64 = .ok (.if_icmp .ne 10, 3) := by decide +kernel
theorem d_Md_isServed_67 : decode b_Md_isServed 67 = .ok (.iload 6, 2) := by decide +kernel
theorem d_Md_isServed_69 : decode b_Md_isServed 69 = .ok (.iconst 1, 1) := by decide +kernel
theorem d_Md_isServed_70 : decode b_Md_isServed 70 = .ok (.iadd, 1) := by decide +kernel
theorem d_Md_isServed_71 : decode b_Md_isServed 71 = .ok (.goto 5, 3) := by decide +kernel
theorem d_Md_isServed_74 : decode b_Md_isServed 74 = .ok (.iload 6, 2) := by decide +kernel
theorem d_Md_isServed_76 : decode b_Md_isServed 76 = .ok (.istore 6, 2) := by decide +kernel
theorem d_Md_isServed_78 : decode b_Md_isServed 78 = .ok (.iinc 7 1, 3) := by decide +kernel
theorem d_Md_isServed_81 : decode b_Md_isServed 81 = .ok (.goto (-54), 3) := by decide +kernel
theorem d_Md_isServed_84 : decode b_Md_isServed 84 = .ok (.iload_n 3, 1) := by decide +kernel
theorem d_Md_isServed_85 : decode b_Md_isServed 85 = .ok (.ifCond .eq 18, 3) := by decide +kernel
theorem d_Md_isServed_88 : decode b_Md_isServed 88 = .ok (.iload 6, 2) := by decide +kernel
theorem d_Md_isServed_90 : decode b_Md_isServed 90 = .ok (.aload_n 0, 1) := by decide +kernel
theorem d_Md_isServed_91 : decode b_Md_isServed 91 = .ok (.getfield 13, 3) := by decide +kernel
theorem d_Md_isServed_94 : decode b_Md_isServed 94 = .ok (.iload_n 1, 1) := by decide +kernel
theorem d_Md_isServed_95 : decode b_Md_isServed 95 = .ok (.iaload, 1) := by decide +kernel
theorem d_Md_isServed_96 : decode b_Md_isServed 96 = .ok (.if_icmp .ne 7, 3) := by decide +kernel
theorem d_Md_isServed_99 : decode b_Md_isServed 99 = .ok (.iconst 1, 1) := by decide +kernel
theorem d_Md_isServed_100 : decode b_Md_isServed 100 = .ok (.goto 4, 3) := by decide +kernel
theorem d_Md_isServed_103 : decode b_Md_isServed 103 = .ok (.iconst 0, 1) := by decide +kernel
theorem d_Md_isServed_104 : decode b_Md_isServed 104 = .ok (.istore_n 3, 1) := by decide +kernel
theorem d_Md_isServed_105 : decode b_Md_isServed 105 = .ok (.iload 4, 2) := by decide +kernel
theorem d_Md_isServed_107 : decode b_Md_isServed 107 = .ok (.iload 6, 2) := by decide +kernel
theorem d_Md_isServed_109 : decode b_Md_isServed 109 = .ok (.iadd, 1) := by decide +kernel
theorem d_Md_isServed_110 : decode b_Md_isServed 110 = .ok (.istore 4, 2) := by decide +kernel
theorem d_Md_isServed_112 : decode b_Md_isServed 112 = .ok (.iinc 5 1, 3) := by decide +kernel
theorem d_Md_isServed_115 : decode b_Md_isServed 115 = .ok (.goto (-107), 3) := by decide +kernel
theorem d_Md_isServed_118 : decode b_Md_isServed 118 = .ok (.iconst 0, 1) := by decide +kernel
theorem d_Md_isServed_119 : decode b_Md_isServed 119 = .ok (.istore 5, 2) := by decide +kernel
theorem d_Md_isServed_121 : decode b_Md_isServed 121 = .ok (.iconst 0, 1) := by decide +kernel
theorem d_Md_isServed_122 : decode b_Md_isServed 122 = .ok (.istore 6, 2) := by decide +kernel
theorem d_Md_isServed_124 : decode b_Md_isServed 124 = .ok (.iload 6, 2) := by decide +kernel
theorem d_Md_isServed_126 : decode b_Md_isServed 126 = .ok (.iload_n 2, 1) := by decide +kernel
theorem d_Md_isServed_127 : decode b_Md_isServed 127 = .ok (.if_icmp .ge 30, 3) := by decide +kernel
theorem d_Md_isServed_130 : decode b_Md_isServed 130 = .ok (.aload_n 0, 1) := by decide +kernel
theorem d_Md_isServed_131 : decode b_Md_isServed 131 = .ok (.iload 6, 2) := by decide +kernel
theorem d_Md_isServed_133 : decode b_Md_isServed 133 = .ok (.invokevirtual 97, 3) := by decide +kernel
theorem d_Md_isServed_136 : decode b_Md_isServed 136 = .ok (.iload_n 1, 1) := by decide +kernel
theorem d_Md_isServed_137 : decode b_Md_isServed 137 = .ok (.if_icmp .ne 10, 3) := by decide +kernel
theorem d_Md_isServed_140 : decode b_Md_isServed 140 = .ok (.iload 5, 2) := by decide +kernel
theorem d_Md_isServed_142 : decode b_Md_isServed 142 = .ok (.iconst 1, 1) := by decide +kernel
theorem d_Md_isServed_143 : decode b_Md_isServed 143 = .ok (.iadd, 1) := by decide +kernel
theorem d_Md_isServed_144 : decode b_Md_isServed 144 = .ok (.goto 5, 3) := by decide +kernel
theorem d_Md_isServed_147 : decode b_Md_isServed 147 = .ok (.iload 5, 2) := by decide +kernel
theorem d_Md_isServed_149 : decode b_Md_isServed 149 = .ok (.istore 5, 2) := by decide +kernel
theorem d_Md_isServed_151 : decode b_Md_isServed 151 = .ok (.iinc 6 1, 3) := by decide +kernel
theorem d_Md_isServed_154 : decode b_Md_isServed 154 = .ok (.goto (-30), 3) := by decide +kernel
theorem d_Md_isServed_157 : decode b_Md_isServed 157 = .ok (.iload_n 3, 1) := by decide +kernel
theorem d_Md_isServed_158 : decode b_Md_isServed 158 = .ok (.ifCond .eq 14, 3) := by decide +kernel
theorem d_Md_isServed_161 : decode b_Md_isServed 161 = .ok (.iload 5, 2) := by decide +kernel
theorem d_Md_isServed_163 : decode b_Md_isServed 163 = .ok (.iload 4, 2) := by decide +kernel
theorem d_Md_isServed_165 : decode b_Md_isServed 165 = .ok (.if_icmp .ne 7, 3) := by decide +kernel
theorem d_Md_isServed_168 : decode b_Md_isServed 168 = .ok (.iconst 1, 1) := by decide +kernel
theorem d_Md_isServed_169 : decode b_Md_isServed 169 = .ok (.goto 4, 3) := by decide +kernel
theorem d_Md_isServed_172 : decode b_Md_isServed 172 = .ok (.iconst 0, 1) := by decide +kernel
theorem d_Md_isServed_173 : decode b_Md_isServed 173 = .ok (.ireturn, 1) := by decide +kernel
theorem d_Md_at_0 : decode b_Md_at 0 = .ok (.iconst (-1), 1) := by decide +kernel
theorem d_Md_at_1 : decode b_Md_at 1 = .ok (.istore_n 2, 1) := by decide +kernel
theorem d_Md_at_2 : decode b_Md_at 2 = .ok (.iconst 0, 1) := by decide +kernel
theorem d_Md_at_3 : decode b_Md_at 3 = .ok (.istore_n 3, 1) := by decide +kernel
theorem d_Md_at_4 : decode b_Md_at 4 = .ok (.iload_n 3, 1) := by decide +kernel
theorem d_Md_at_5 : decode b_Md_at 5 = .ok (.aload_n 0, 1) := by decide +kernel
theorem d_Md_at_6 : decode b_Md_at 6 = .ok (.getfield 77, 3) := by decide +kernel
theorem d_Md_at_9 : decode b_Md_at 9 = .ok (.if_icmp .ge 47, 3) := by decide +kernel
theorem d_Md_at_12 : decode b_Md_at 12 = .ok (.iload_n 1, 1) := by decide +kernel
theorem d_Md_at_13 : decode b_Md_at 13 = .ok (.aload_n 0, 1) := by decide +kernel
theorem d_Md_at_14 : decode b_Md_at 14 = .ok (.getfield 25, 3) := by decide +kernel
theorem d_Md_at_17 : decode b_Md_at 17 = .ok (.iload_n 3, 1) := by decide +kernel
theorem d_Md_at_18 : decode b_Md_at 18 = .ok (.iaload, 1) := by decide +kernel
theorem d_Md_at_19 : decode b_Md_at 19 = .ok (.if_icmp .lt 29, 3) := by decide +kernel
theorem d_Md_at_22 : decode b_Md_at 22 = .ok (.iload_n 1, 1) := by decide +kernel
theorem d_Md_at_23 : decode b_Md_at 23 = .ok (.aload_n 0, 1) := by decide +kernel
theorem d_Md_at_24 : decode b_Md_at 24 = .ok (.getfield 25, 3) := by decide +kernel
theorem d_Md_at_27 : decode b_Md_at 27 = .ok (.iload_n 3, 1) := by decide +kernel
theorem d_Md_at_28 : decode b_Md_at 28 = .ok (.iaload, 1) := by decide +kernel
theorem d_Md_at_29 : decode b_Md_at 29 = .ok (.aload_n 0, 1) := by decide +kernel
theorem d_Md_at_30 : decode b_Md_at 30 = .ok (.getfield 28, 3) := by decide +kernel
theorem d_Md_at_33 : decode b_Md_at 33 = .ok (.iload_n 3, 1) := by decide +kernel
theorem d_Md_at_34 : decode b_Md_at 34 = .ok (.iaload, 1) := by decide +kernel
theorem d_Md_at_35 : decode b_Md_at 35 = .ok (.iadd, 1) := by decide +kernel
theorem d_Md_at_36 : decode b_Md_at 36 = .ok (.if_icmp .ge 12, 3) := by decide +kernel
theorem d_Md_at_39 : decode b_Md_at 39 = .ok (.aload_n 0, 1) := by decide +kernel
theorem d_Md_at_40 : decode b_Md_at 40 = .ok (.getfield 31, 3) := by decide +kernel
theorem d_Md_at_43 : decode b_Md_at 43 = .ok (.iload_n 3, 1) := by decide +kernel
theorem d_Md_at_44 : decode b_Md_at 44 = .ok (.iaload, 1) := by decide +kernel
theorem d_Md_at_45 : decode b_Md_at 45 = .ok (.goto 4, 3) := by decide +kernel
theorem d_Md_at_48 : decode b_Md_at 48 = .ok (.iload_n 2, 1) := by decide +kernel
theorem d_Md_at_49 : decode b_Md_at 49 = .ok (.istore_n 2, 1) := by decide +kernel
theorem d_Md_at_50 : decode b_Md_at 50 = .ok (.iinc 3 1, 3) := by decide +kernel
theorem d_Md_at_53 : decode b_Md_at 53 = .ok (.goto (-49), 3) := by decide +kernel
theorem d_Md_at_56 : decode b_Md_at 56 = .ok (.iload_n 2, 1) := by decide +kernel
theorem d_Md_at_57 : decode b_Md_at 57 = .ok (.ireturn, 1) := by decide +kernel
theorem d_Md_stop_0 : decode b_Md_stop 0 = .ok (.aload_n 0, 1) := by decide +kernel
theorem d_Md_stop_1 : decode b_Md_stop 1 = .ok (.aload_n 0, 1) := by decide +kernel
theorem d_Md_stop_2 : decode b_Md_stop 2 = .ok (.getfield 66, 3) := by decide +kernel
theorem d_Md_stop_5 : decode b_Md_stop 5 = .ok (.ifCond .eq 7, 3) := by decide +kernel
theorem d_Md_stop_8 : decode b_Md_stop 8 = .ok (.iconst 0, 1) := by decide +kernel
theorem d_Md_stop_9 : decode b_Md_stop 9 = .ok (.goto 4, 3) := by decide +kernel
theorem d_Md_stop_12 : decode b_Md_stop 12 = .ok (.iconst 1, 1) := by decide +kernel
theorem d_Md_stop_13 : decode b_Md_stop 13 = .ok (.invokevirtual 70, 3) := by decide +kernel
theorem d_Md_stop_16 : decode b_Md_stop 16 = .ok (.ifCond .ne 8, 3) := by decide +kernel
theorem d_Md_stop_19 : decode b_Md_stop 19 = .ok (.aload_n 0, 1) := by decide +kernel
theorem d_Md_stop_20 : decode b_Md_stop 20 = .ok (.iconst 0, 1) := by decide +kernel
theorem d_Md_stop_21 : decode b_Md_stop 21 = .ok (.putfield 66, 3) := by decide +kernel
theorem d_Md_stop_24 : decode b_Md_stop 24 = .ok (.return_, 1) := by decide +kernel
theorem d_Md_tick_0 : decode b_Md_tick 0 = .ok (.aload_n 0, 1) := by decide +kernel
theorem d_Md_tick_1 : decode b_Md_tick 1 = .ok (.aload_n 0, 1) := by decide +kernel
theorem d_Md_tick_2 : decode b_Md_tick 2 = .ok (.getfield 66, 3) := by decide +kernel
theorem d_Md_tick_5 : decode b_Md_tick 5 = .ok (.ifCond .eq 7, 3) := by decide +kernel
theorem d_Md_tick_8 : decode b_Md_tick 8 = .ok (.iconst 0, 1) := by decide +kernel
theorem d_Md_tick_9 : decode b_Md_tick 9 = .ok (.goto 4, 3) := by decide +kernel
theorem d_Md_tick_12 : decode b_Md_tick 12 = .ok (.iconst 1, 1) := by decide +kernel
theorem d_Md_tick_13 : decode b_Md_tick 13 = .ok (.invokevirtual 70, 3) := by decide +kernel
theorem d_Md_tick_16 : decode b_Md_tick 16 = .ok (.ifCond .eq 7, 3) := by decide +kernel
theorem d_Md_tick_19 : decode b_Md_tick 19 = .ok (.iconst 0, 1) := by decide +kernel
theorem d_Md_tick_20 : decode b_Md_tick 20 = .ok (.goto 7, 3) := by decide +kernel
theorem d_Md_tick_23 : decode b_Md_tick 23 = .ok (.aload_n 0, 1) := by decide +kernel
theorem d_Md_tick_24 : decode b_Md_tick 24 = .ok (.invokevirtual 121, 3) := by decide +kernel
theorem d_Md_tick_27 : decode b_Md_tick 27 = .ok (.ireturn, 1) := by decide +kernel
theorem d_Md_one_0 : decode b_Md_one 0 = .ok (.iconst 0, 1) := by decide +kernel
theorem d_Md_one_1 : decode b_Md_one 1 = .ok (.istore_n 1, 1) := by decide +kernel
theorem d_Md_one_2 : decode b_Md_one 2 = .ok (.iload_n 1, 1) := by decide +kernel
theorem d_Md_one_3 : decode b_Md_one 3 = .ok (.aload_n 0, 1) := by decide +kernel
theorem d_Md_one_4 : decode b_Md_one 4 = .ok (.getfield 74, 3) := by decide +kernel
theorem d_Md_one_7 : decode b_Md_one 7 = .ok (.if_icmp .ge 26, 3) := by decide +kernel
theorem d_Md_one_10 : decode b_Md_one 10 = .ok (.aload_n 0, 1) := by decide +kernel
theorem d_Md_one_11 : decode b_Md_one 11 = .ok (.iload_n 1, 1) := by decide +kernel
theorem d_Md_one_12 : decode b_Md_one 12 = .ok (.aload_n 0, 1) := by decide +kernel
theorem d_Md_one_13 : decode b_Md_one 13 = .ok (.getfield 111, 3) := by decide +kernel
theorem d_Md_one_16 : decode b_Md_one 16 = .ok (.invokevirtual 84, 3) := by decide +kernel
theorem d_Md_one_19 : decode b_Md_one 19 = .ok (.ifCond .eq 8, 3) := by decide +kernel
theorem d_Md_one_22 : decode b_Md_one 22 = .ok (.aload_n 0, 1) := by decide +kernel
theorem d_Md_one_23 : decode b_Md_one 23 = .ok (.iload_n 1, 1) := by decide +kernel
theorem d_Md_one_24 : decode b_Md_one 24 = .ok (.invokevirtual 114, 3) := by decide +kernel
theorem d_Md_one_27 : decode b_Md_one 27 = .ok (.iinc 1 1, 3) := by decide +kernel
theorem d_Md_one_30 : decode b_Md_one 30 = .ok (.goto (-28), 3) := by decide +kernel
theorem d_Md_one_33 : decode b_Md_one 33 = .ok (.aload_n 0, 1) := by decide +kernel
theorem d_Md_one_34 : decode b_Md_one 34 = .ok (.aload_n 0, 1) := by decide +kernel
theorem d_Md_one_35 : decode b_Md_one 35 = .ok (.getfield 111, 3) := by decide +kernel
theorem d_Md_one_38 : decode b_Md_one 38 = .ok (.aload_n 0, 1) := by decide +kernel
theorem d_Md_one_39 : decode b_Md_one 39 = .ok (.invokevirtual 80, 3) := by decide +kernel
theorem d_Md_one_42 : decode b_Md_one 42 = .ok (.irem, 1) := by decide +kernel
theorem d_Md_one_43 : decode b_Md_one 43 = .ok (.invokevirtual 97, 3) := by decide +kernel
theorem d_Md_one_46 : decode b_Md_one 46 = .ok (.istore_n 1, 1) := by decide +kernel
theorem d_Md_one_47 : decode b_Md_one 47 = .ok (.aload_n 0, 1) := by decide +kernel
theorem d_Md_one_48 : decode b_Md_one 48 = .ok (.dup, 1) := by decide +kernel
theorem d_Md_one_49 : decode b_Md_one 49 = .ok (.getfield 111, 3) := by decide +kernel
theorem d_Md_one_52 : decode b_Md_one 52 = .ok (.iconst 1, 1) := by decide +kernel
theorem d_Md_one_53 : decode b_Md_one 53 = .ok (.iadd, 1) := by decide +kernel
theorem d_Md_one_54 : decode b_Md_one 54 = .ok (.putfield 111, 3) := by decide +kernel
theorem d_Md_one_57 : decode b_Md_one 57 = .ok (.iload_n 1, 1) := by decide +kernel
theorem d_Md_one_58 : decode b_Md_one 58 = .ok (.ifCond .lt 12, 3) := by decide +kernel
theorem d_Md_one_61 : decode b_Md_one 61 = .ok (.aload_n 0, 1) := by decide +kernel
theorem d_Md_one_62 : decode b_Md_one 62 = .ok (.getfield 40, 3) := by decide +kernel
theorem d_Md_one_65 : decode b_Md_one 65 = .ok (.iload_n 1, 1) := by decide +kernel
theorem d_Md_one_66 : decode b_Md_one 66 = .ok (.baload, 1) := by decide +kernel
theorem d_Md_one_67 : decode b_Md_one 67 = .ok (.ifCond .ne 5, 3) := by decide +kernel
theorem d_Md_one_70 : decode b_Md_one 70 = .ok (.iconst (-1), 1) := by decide +kernel
theorem d_Md_one_71 : decode b_Md_one 71 = .ok (.ireturn, 1) := by decide +kernel
theorem d_Md_one_72 : decode b_Md_one 72 = .ok (.aload_n 0, 1) := by decide +kernel
theorem d_Md_one_73 : decode b_Md_one 73 = .ok (.iload_n 1, 1) := by decide +kernel
theorem d_Md_one_74 : decode b_Md_one 74 = .ok (.invokevirtual 118, 3) := by decide +kernel
theorem d_Md_one_77 : decode b_Md_one 77 = .ok (.istore_n 2, 1) := by decide +kernel
theorem d_Md_one_78 : decode b_Md_one 78 = .ok (.aload_n 0, 1) := by decide +kernel
theorem d_Md_one_79 : decode b_Md_one 79 = .ok (.getfield 47, 3) := by decide +kernel
theorem d_Md_one_82 : decode b_Md_one 82 = .ok (.iload_n 1, 1) := by decide +kernel
theorem d_Md_one_83 : decode b_Md_one 83 = .ok (.dup2, 1) := by decide +kernel
theorem d_Md_one_84 : decode b_Md_one 84 = .ok (.iaload, 1) := by decide +kernel
theorem d_Md_one_85 : decode b_Md_one 85 = .ok (.iconst 1, 1) := by decide +kernel
theorem d_Md_one_86 : decode b_Md_one 86 = .ok (.iadd, 1) := by decide +kernel
theorem d_Md_one_87 : decode b_Md_one 87 = .ok (.iastore, 1) := by decide +kernel
theorem d_Md_one_88 : decode b_Md_one 88 = .ok (.iload_n 2, 1) := by decide +kernel
theorem d_Md_one_89 : decode b_Md_one 89 = .ok (.ifCond .ne 22, 3) := by decide +kernel
theorem d_Md_one_92 : decode b_Md_one 92 = .ok (.aload_n 0, 1) := by decide +kernel
theorem d_Md_one_93 : decode b_Md_one 93 = .ok (.getfield 47, 3) := by decide +kernel
theorem d_Md_one_96 : decode b_Md_one 96 = .ok (.iload_n 1, 1) := by decide +kernel
theorem d_Md_one_97 : decode b_Md_one 97 = .ok (.iaload, 1) := by decide +kernel
theorem d_Md_one_98 : decode b_Md_one 98 = .ok (.aload_n 0, 1) := by decide +kernel
theorem d_Md_one_99 : decode b_Md_one 99 = .ok (.getfield 13, 3) := by decide +kernel
theorem d_Md_one_102 : decode b_Md_one 102 = .ok (.iload_n 1, 1) := by decide +kernel
theorem d_Md_one_103 : decode b_Md_one 103 = .ok (.iaload, 1) := by decide +kernel
theorem d_Md_one_104 : decode b_Md_one 104 = .ok (.if_icmp .ne 7, 3) := by decide +kernel
theorem d_Md_one_107 : decode b_Md_one 107 = .ok (.iconst 3, 1) := by decide +kernel
theorem d_Md_one_108 : decode b_Md_one 108 = .ok (.goto 4, 3) := by decide +kernel
theorem d_Md_one_111 : decode b_Md_one 111 = .ok (.iload_n 2, 1) := by decide +kernel
theorem d_Md_one_112 : decode b_Md_one 112 = .ok (.istore_n 2, 1) := by decide +kernel
theorem d_Md_one_113 : decode b_Md_one 113 = .ok (.iload_n 2, 1) := by decide +kernel
theorem d_Md_one_114 : decode b_Md_one 114 = .ok (.ifCond .ne 5, 3) := by decide +kernel
theorem d_Md_one_117 : decode b_Md_one 117 = .ok (.iload_n 1, 1) := by decide +kernel
theorem d_Md_one_118 : decode b_Md_one 118 = .ok (.ireturn, 1) := by decide +kernel
theorem d_Md_one_119 : decode b_Md_one 119 = .ok (.aload_n 0, 1) := by decide +kernel
theorem d_Md_one_120 : decode b_Md_one 120 = .ok (.getfield 40, 3) := by decide +kernel
theorem d_Md_one_123 : decode b_Md_one 123 = .ok (.iload_n 1, 1) := by decide +kernel
theorem d_Md_one_124 : decode b_Md_one 124 = .ok (.iconst 0, 1) := by decide +kernel
theorem d_Md_one_125 : decode b_Md_one 125 = .ok (.bastore, 1) := by decide +kernel
theorem d_Md_one_126 : decode b_Md_one 126 = .ok (.aload_n 0, 1) := by decide +kernel
theorem d_Md_one_127 : decode b_Md_one 127 = .ok (.getfield 56, 3) := by decide +kernel
theorem d_Md_one_130 : decode b_Md_one 130 = .ok (.iconst 4, 1) := by decide +kernel
theorem d_Md_one_131 : decode b_Md_one 131 = .ok (.iload_n 1, 1) := by decide +kernel
theorem d_Md_one_132 : decode b_Md_one 132 = .ok (.imul, 1) := by decide +kernel
theorem d_Md_one_133 : decode b_Md_one 133 = .ok (.iload_n 2, 1) := by decide +kernel
theorem d_Md_one_134 : decode b_Md_one 134 = .ok (.iadd, 1) := by decide +kernel
theorem d_Md_one_135 : decode b_Md_one 135 = .ok (.iconst 1, 1) := by decide +kernel
theorem d_Md_one_136 : decode b_Md_one 136 = .ok (.isub, 1) := by decide +kernel
theorem d_Md_one_137 : decode b_Md_one 137 = .ok (.dup2, 1) := by decide +kernel
theorem d_Md_one_138 : decode b_Md_one 138 = .ok (.iaload, 1) := by decide +kernel
theorem d_Md_one_139 : decode b_Md_one 139 = .ok (.iconst 1, 1) := by decide +kernel
theorem d_Md_one_140 : decode b_Md_one 140 = .ok (.iadd, 1) := by decide +kernel
theorem d_Md_one_141 : decode b_Md_one 141 = .ok (.iastore, 1) := by decide +kernel
theorem d_Md_one_142 : decode b_Md_one 142 = .ok (.aload_n 0, 1) := by decide +kernel
theorem d_Md_one_143 : decode b_Md_one 143 = .ok (.getfield 111, 3) := by decide +kernel
theorem d_Md_one_146 : decode b_Md_one 146 = .ok (.aload_n 0, 1) := by decide +kernel
theorem d_Md_one_147 : decode b_Md_one 147 = .ok (.getfield 44, 3) := by decide +kernel
theorem d_Md_one_150 : decode b_Md_one 150 = .ok (.iload_n 1, 1) := by decide +kernel
theorem d_Md_one_151 : decode b_Md_one 151 = .ok (.iaload, 1) := by decide +kernel
theorem d_Md_one_152 : decode b_Md_one 152 = .ok (.isub, 1) := by decide +kernel
theorem d_Md_one_153 : decode b_Md_one 153 = .ok (.istore_n 3, 1) := by decide +kernel
theorem d_Md_one_154 : decode b_Md_one 154 = .ok (.iload_n 2, 1) := by decide +kernel
theorem d_Md_one_155 : decode b_Md_one 155 = .ok (.iconst 1, 1) := by decide +kernel
theorem d_Md_one_156 : decode b_Md_one 156 = .ok (.if_icmp .ne 28, 3) := by decide +kernel
theorem d_Md_one_159 : decode b_Md_one 159 = .ok (.iload_n 3, 1) := by decide +kernel
theorem d_Md_one_160 : decode b_Md_one 160 = .ok (.aload_n 0, 1) := by decide +kernel
theorem d_Md_one_161 : decode b_Md_one 161 = .ok (.getfield 56, 3) := by decide +kernel
theorem d_Md_one_164 : decode b_Md_one 164 = .ok (.iconst 4, 1) := by decide +kernel
theorem d_Md_one_165 : decode b_Md_one 165 = .ok (.iload_n 1, 1) := by decide +kernel
theorem d_Md_one_166 : decode b_Md_one 166 = .ok (.imul, 1) := by decide +kernel
theorem d_Md_one_167 : decode b_Md_one 167 = .ok (.iconst 3, 1) := by decide +kernel
theorem d_Md_one_168 : decode b_Md_one 168 = .ok (.iadd, 1) := by decide +kernel
theorem d_Md_one_169 : decode b_Md_one 169 = .ok (.iaload, 1) := by decide +kernel
theorem d_Md_one_170 : decode b_Md_one 170 = .ok (.if_icmp .le 14, 3) := by decide +kernel
theorem d_Md_one_173 : decode b_Md_one 173 = .ok (.aload_n 0, 1) := by decide +kernel
theorem d_Md_one_174 : decode b_Md_one 174 = .ok (.getfield 56, 3) := by decide +kernel
theorem d_Md_one_177 : decode b_Md_one 177 = .ok (.iconst 4, 1) := by decide +kernel
theorem d_Md_one_178 : decode b_Md_one 178 = .ok (.iload_n 1, 1) := by decide +kernel
theorem d_Md_one_179 : decode b_Md_one 179 = .ok (.imul, 1) := by decide +kernel
theorem d_Md_one_180 : decode b_Md_one 180 = .ok (.iconst 3, 1) := by decide +kernel
theorem d_Md_one_181 : decode b_Md_one 181 = .ok (.iadd, 1) := by decide +kernel
theorem d_Md_one_182 : decode b_Md_one 182 = .ok (.iload_n 3, 1) := by decide +kernel
theorem d_Md_one_183 : decode b_Md_one 183 = .ok (.iastore, 1) := by decide +kernel
theorem d_Md_one_184 : decode b_Md_one 184 = .ok (.iload_n 1, 1) := by decide +kernel
theorem d_Md_one_185 : decode b_Md_one 185 = .ok (.bipush 100, 2) := by decide +kernel
theorem d_Md_one_187 : decode b_Md_one 187 = .ok (.iload_n 2, 1) := by decide +kernel
theorem d_Md_one_188 : decode b_Md_one 188 = .ok (.imul, 1) := by decide +kernel
theorem d_Md_one_189 : decode b_Md_one 189 = .ok (.iadd, 1) := by decide +kernel
theorem d_Md_one_190 : decode b_Md_one 190 = .ok (.ireturn, 1) := by decide +kernel
theorem d_Md_release_0 : decode b_Md_release 0 = .ok (.aload_n 0, 1) := by decide +kernel
theorem d_Md_release_1 : decode b_Md_release 1 = .ok (.getfield 40, 3) := by decide +kernel
theorem d_Md_release_4 : decode b_Md_release 4 = .ok (.iload_n 1, 1) := by decide +kernel
theorem d_Md_release_5 : decode b_Md_release 5 = .ok (.iconst 1, 1) := by decide +kernel
theorem d_Md_release_6 : decode b_Md_release 6 = .ok (.bastore, 1) := by decide +kernel
theorem d_Md_release_7 : decode b_Md_release 7 = .ok (.aload_n 0, 1) := by decide +kernel
theorem d_Md_release_8 : decode b_Md_release 8 = .ok (.getfield 44, 3) := by decide +kernel
theorem d_Md_release_11 : decode b_Md_release 11 = .ok (.iload_n 1, 1) := by decide +kernel
theorem d_Md_release_12 : decode b_Md_release 12 = .ok (.aload_n 0, 1) := by decide +kernel
theorem d_Md_release_13 : decode b_Md_release 13 = .ok (.getfield 111, 3) := by decide +kernel
theorem d_Md_release_16 : decode b_Md_release 16 = .ok (.iastore, 1) := by decide +kernel
theorem d_Md_release_17 : decode b_Md_release 17 = .ok (.aload_n 0, 1) := by decide +kernel
theorem d_Md_release_18 : decode b_Md_release 18 = .ok (.getfield 47, 3) := by decide +kernel
theorem d_Md_release_21 : decode b_Md_release 21 = .ok (.iload_n 1, 1) := by decide +kernel
theorem d_Md_release_22 : decode b_Md_release 22 = .ok (.iconst 0, 1) := by decide +kernel
theorem d_Md_release_23 : decode b_Md_release 23 = .ok (.iastore, 1) := by decide +kernel
theorem d_Md_release_24 : decode b_Md_release 24 = .ok (.aload_n 0, 1) := by decide +kernel
theorem d_Md_release_25 : decode b_Md_release 25 = .ok (.getfield 50, 3) := by decide +kernel
theorem d_Md_release_28 : decode b_Md_release 28 = .ok (.iload_n 1, 1) := by decide +kernel
theorem d_Md_release_29 : decode b_Md_release 29 = .ok (.aload_n 0, 1) := by decide +kernel
theorem d_Md_release_30 : decode b_Md_release 30 = .ok (.getfield 22, 3) := by decide +kernel
theorem d_Md_release_33 : decode b_Md_release 33 = .ok (.iload_n 1, 1) := by decide +kernel
theorem d_Md_release_34 : decode b_Md_release 34 = .ok (.iaload, 1) := by decide +kernel
theorem d_Md_release_35 : decode b_Md_release 35 = .ok (.iastore, 1) := by decide +kernel
theorem d_Md_release_36 : decode b_Md_release 36 = .ok (.iconst 0, 1) := by decide +kernel
theorem d_Md_release_37 : decode b_Md_release 37 = .ok (.istore_n 2, 1) := by decide +kernel
theorem d_Md_release_38 : decode b_Md_release 38 = .ok (.iload_n 2, 1) := by decide +kernel
theorem d_Md_release_39 : decode b_Md_release 39 = .ok (.iconst 4, 1) := by decide +kernel
theorem d_Md_release_40 : decode b_Md_release 40 = .ok (.if_icmp .ge 20, 3) := by decide +kernel
theorem d_Md_release_43 : decode b_Md_release 43 = .ok (.aload_n 0, 1) := by decide +kernel
theorem d_Md_release_44 : decode b_Md_release 44 = .ok (.getfield 53, 3) := by decide +kernel
theorem d_Md_release_47 : decode b_Md_release 47 = .ok (.iconst 4, 1) := by decide +kernel
theorem d_Md_release_48 : decode b_Md_release 48 = .ok (.iload_n 1, 1) := by decide +kernel
theorem d_Md_release_49 : decode b_Md_release 49 = .ok (.imul, 1) := by decide +kernel
theorem d_Md_release_50 : decode b_Md_release 50 = .ok (.iload_n 2, 1) := by decide +kernel
theorem d_Md_release_51 : decode b_Md_release 51 = .ok (.iadd, 1) := by decide +kernel
theorem d_Md_release_52 : decode b_Md_release 52 = .ok (.iconst 0, 1) := by decide +kernel
theorem d_Md_release_53 : decode b_Md_release 53 = .ok (.iastore, 1) := by decide +kernel
theorem d_Md_release_54 : decode b_Md_release 54 = .ok (.iinc 2 1, 3) := by decide +kernel
theorem d_Md_release_57 : decode b_Md_release 57 = .ok (.goto (-19), 3) := by decide +kernel
theorem d_Md_release_60 : decode b_Md_release 60 = .ok (.return_, 1) := by decide +kernel
theorem d_Md_instruct_0 : decode b_Md_instruct 0 = .ok (.aload_n 0, 1) := by decide +kernel
theorem d_Md_instruct_1 : decode b_Md_instruct 1 = .ok (.getfield 34, 3) := by decide +kernel
theorem d_Md_instruct_4 : decode b_Md_instruct 4 = .ok (.aload_n 0, 1) := by decide +kernel
theorem d_Md_instruct_5 : decode b_Md_instruct 5 = .ok (.getfield 50, 3) := by decide +kernel
theorem d_Md_instruct_8 : decode b_Md_instruct 8 = .ok (.iload_n 1, 1) := by decide +kernel
theorem d_Md_instruct_9 : decode b_Md_instruct 9 = .ok (.iaload, 1) := by decide +kernel
theorem d_Md_instruct_10 : decode b_Md_instruct 10 = .ok (.iaload, 1) := by decide +kernel
theorem d_Md_instruct_11 : decode b_Md_instruct 11 = .ok (.istore_n 2, 1) := by decide +kernel
theorem d_Md_instruct_12 : decode b_Md_instruct 12 = .ok (.aload_n 0, 1) := by decide +kernel
theorem d_Md_instruct_13 : decode b_Md_instruct 13 = .ok (.getfield 50, 3) := by decide +kernel
theorem d_Md_instruct_16 : decode b_Md_instruct 16 = .ok (.iload_n 1, 1) := by decide +kernel
theorem d_Md_instruct_17 : decode b_Md_instruct 17 = .ok (.aload_n 0, 1) := by decide +kernel
theorem d_Md_instruct_18 : decode b_Md_instruct 18 = .ok (.getfield 50, 3) := by decide +kernel
theorem d_Md_instruct_21 : decode b_Md_instruct 21 = .ok (.iload_n 1, 1) := by decide +kernel
theorem d_Md_instruct_22 : decode b_Md_instruct 22 = .ok (.iaload, 1) := by decide +kernel
theorem d_Md_instruct_23 : decode b_Md_instruct 23 = .ok (.iconst 1, 1) := by decide +kernel
theorem d_Md_instruct_24 : decode b_Md_instruct 24 = .ok (.iadd, 1) := by decide +kernel
theorem d_Md_instruct_25 : decode b_Md_instruct 25 = .ok (.bipush 64, 2) := by decide +kernel
theorem d_Md_instruct_27 : decode b_Md_instruct 27 = .ok (.irem, 1) := by decide +kernel
theorem d_Md_instruct_28 : decode b_Md_instruct 28 = .ok (.iastore, 1) := by decide +kernel
theorem d_Md_instruct_29 : decode b_Md_instruct 29 = .ok (.iconst 4, 1) := by decide +kernel
theorem d_Md_instruct_30 : decode b_Md_instruct 30 = .ok (.iload_n 1, 1) := by decide +kernel
theorem d_Md_instruct_31 : decode b_Md_instruct 31 = .ok (.imul, 1) := by decide +kernel
theorem d_Md_instruct_32 : decode b_Md_instruct 32 = .ok (.iload_n 2, 1) := by decide +kernel
theorem d_Md_instruct_33 : decode b_Md_instruct 33 = .ok (.iconst 4, 1) := by decide +kernel
theorem d_Md_instruct_34 : decode b_Md_instruct 34 = .ok (.ishr, 1) := by decide +kernel
theorem d_Md_instruct_35 : decode b_Md_instruct 35 = .ok (.iconst 3, 1) := by decide +kernel
theorem d_Md_instruct_36 : decode b_Md_instruct 36 = .ok (.iand, 1) := by decide +kernel
theorem d_Md_instruct_37 : decode b_Md_instruct 37 = .ok (.iadd, 1) := by decide +kernel
theorem d_Md_instruct_38 : decode b_Md_instruct 38 = .ok (.istore_n 3, 1) := by decide +kernel
theorem d_Md_instruct_39 : decode b_Md_instruct 39 = .ok (.iconst 4, 1) := by decide +kernel
theorem d_Md_instruct_40 : decode b_Md_instruct 40 = .ok (.iload_n 1, 1) := by decide +kernel
theorem d_Md_instruct_41 : decode b_Md_instruct 41 = .ok (.imul, 1) := by decide +kernel
theorem d_Md_instruct_42 : decode b_Md_instruct 42 = .ok (.iload_n 2, 1) := by decide +kernel
theorem d_Md_instruct_43 : decode b_Md_instruct 43 = .ok (.bipush 6, 2) := by decide +kernel
theorem d_Md_instruct_45 : decode b_Md_instruct 45 = .ok (.ishr, 1) := by decide +kernel
theorem d_Md_instruct_46 : decode b_Md_instruct 46 = .ok (.iconst 3, 1) := by decide +kernel
theorem d_Md_instruct_47 : decode b_Md_instruct 47 = .ok (.iand, 1) := by decide +kernel
theorem d_Md_instruct_48 : decode b_Md_instruct 48 = .ok (.iadd, 1) := by decide +kernel
theorem d_Md_instruct_49 : decode b_Md_instruct 49 = .ok (.istore 4, 2) := by decide +kernel
theorem d_Md_instruct_51 : decode b_Md_instruct 51 = .ok (.iload_n 2, 1) := by decide +kernel
theorem d_Md_instruct_52 : decode b_Md_instruct 52 = .ok (.bipush 8, 2) := by decide +kernel
theorem d_Md_instruct_54 : decode b_Md_instruct 54 = .ok (.ishr, 1) := by decide +kernel
theorem d_Md_instruct_55 : decode b_Md_instruct 55 = .ok (.istore 5, 2) := by decide +kernel
theorem d_Md_instruct_57 : decode b_Md_instruct 57 = .ok (.iload_n 2, 1) := by decide +kernel
theorem d_Md_instruct_58 : decode b_Md_instruct 58 = .ok (.bipush 15, 2) := by decide +kernel
theorem d_Md_instruct_60 : decode b_Md_instruct 60 = .ok (.iand, 1) := by decide +kernel
theorem d_Md_instruct_61 : decode b_Md_instruct 61 = .ok (.tableswitch 275 0 10 #[59, 61, 71, 93, 115, 137, 160, 183, 214, 245, 258], 59) := by decide +kernel
theorem d_Md_instruct_120 : decode b_Md_instruct 120 = .ok (.iconst 1, 1) := by decide +kernel
theorem d_Md_instruct_121 : decode b_Md_instruct 121 = .ok (.ireturn, 1) := by decide +kernel
theorem d_Md_instruct_122 : decode b_Md_instruct 122 = .ok (.aload_n 0, 1) := by decide +kernel
theorem d_Md_instruct_123 : decode b_Md_instruct 123 = .ok (.getfield 53, 3) := by decide +kernel
theorem d_Md_instruct_126 : decode b_Md_instruct 126 = .ok (.iload_n 3, 1) := by decide +kernel
theorem d_Md_instruct_127 : decode b_Md_instruct 127 = .ok (.iload 5, 2) := by decide +kernel
theorem d_Md_instruct_129 : decode b_Md_instruct 129 = .ok (.iastore, 1) := by decide +kernel
theorem d_Md_instruct_130 : decode b_Md_instruct 130 = .ok (.iconst 0, 1) := by decide +kernel
theorem d_Md_instruct_131 : decode b_Md_instruct 131 = .ok (.ireturn, 1) := by decide +kernel
theorem d_Md_instruct_132 : decode b_Md_instruct 132 = .ok (.aload_n 0, 1) := by decide +kernel
theorem d_Md_instruct_133 : decode b_Md_instruct 133 = .ok (.getfield 53, 3) := by decide +kernel
theorem d_Md_instruct_136 : decode b_Md_instruct 136 = .ok (.iload_n 3, 1) := by decide +kernel
theorem d_Md_instruct_137 : decode b_Md_instruct 137 = .ok (.aload_n 0, 1) := by decide +kernel
theorem d_Md_instruct_138 : decode b_Md_instruct 138 = .ok (.getfield 53, 3) := by decide +kernel
theorem d_Md_instruct_141 : decode b_Md_instruct 141 = .ok (.iload_n 3, 1) := by decide +kernel
theorem d_Md_instruct_142 : decode b_Md_instruct 142 = .ok (.iaload, 1) := by decide +kernel
theorem d_Md_instruct_143 : decode b_Md_instruct 143 = .ok (.aload_n 0, 1) := by decide +kernel
theorem d_Md_instruct_144 : decode b_Md_instruct 144 = .ok (.getfield 53, 3) := by decide +kernel
theorem d_Md_instruct_147 : decode b_Md_instruct 147 = .ok (.iload 4, 2) := by decide +kernel
theorem d_Md_instruct_149 : decode b_Md_instruct 149 = .ok (.iaload, 1) := by decide +kernel
theorem d_Md_instruct_150 : decode b_Md_instruct 150 = .ok (.iadd, 1) := by decide +kernel
theorem d_Md_instruct_151 : decode b_Md_instruct 151 = .ok (.iastore, 1) := by decide +kernel
theorem d_Md_instruct_152 : decode b_Md_instruct 152 = .ok (.iconst 0, 1) := by decide +kernel
theorem d_Md_instruct_153 : decode b_Md_instruct 153 = .ok (.ireturn, 1) := by decide +kernel
theorem d_Md_instruct_154 : decode b_Md_instruct 154 = .ok (.aload_n 0, 1) := by decide +kernel
theorem d_Md_instruct_155 : decode b_Md_instruct 155 = .ok (.getfield 53, 3) := by decide +kernel
theorem d_Md_instruct_158 : decode b_Md_instruct 158 = .ok (.iload_n 3, 1) := by decide +kernel
theorem d_Md_instruct_159 : decode b_Md_instruct 159 = .ok (.aload_n 0, 1) := by decide +kernel
theorem d_Md_instruct_160 : decode b_Md_instruct 160 = .ok (.getfield 53, 3) := by decide +kernel
theorem d_Md_instruct_163 : decode b_Md_instruct 163 = .ok (.iload_n 3, 1) := by decide +kernel
theorem d_Md_instruct_164 : decode b_Md_instruct 164 = .ok (.iaload, 1) := by decide +kernel
theorem d_Md_instruct_165 : decode b_Md_instruct 165 = .ok (.aload_n 0, 1) := by decide +kernel
theorem d_Md_instruct_166 : decode b_Md_instruct 166 = .ok (.getfield 53, 3) := by decide +kernel
theorem d_Md_instruct_169 : decode b_Md_instruct 169 = .ok (.iload 4, 2) := by decide +kernel
theorem d_Md_instruct_171 : decode b_Md_instruct 171 = .ok (.iaload, 1) := by decide +kernel
theorem d_Md_instruct_172 : decode b_Md_instruct 172 = .ok (.isub, 1) := by decide +kernel
theorem d_Md_instruct_173 : decode b_Md_instruct 173 = .ok (.iastore, 1) := by decide +kernel
theorem d_Md_instruct_174 : decode b_Md_instruct 174 = .ok (.iconst 0, 1) := by decide +kernel
theorem d_Md_instruct_175 : decode b_Md_instruct 175 = .ok (.ireturn, 1) := by decide +kernel
theorem d_Md_instruct_176 : decode b_Md_instruct 176 = .ok (.aload_n 0, 1) := by decide +kernel
theorem d_Md_instruct_177 : decode b_Md_instruct 177 = .ok (.getfield 53, 3) := by decide +kernel
theorem d_Md_instruct_180 : decode b_Md_instruct 180 = .ok (.iload_n 3, 1) := by decide +kernel
theorem d_Md_instruct_181 : decode b_Md_instruct 181 = .ok (.aload_n 0, 1) := by decide +kernel
theorem d_Md_instruct_182 : decode b_Md_instruct 182 = .ok (.getfield 53, 3) := by decide +kernel
theorem d_Md_instruct_185 : decode b_Md_instruct 185 = .ok (.iload_n 3, 1) := by decide +kernel
theorem d_Md_instruct_186 : decode b_Md_instruct 186 = .ok (.iaload, 1) := by decide +kernel
theorem d_Md_instruct_187 : decode b_Md_instruct 187 = .ok (.aload_n 0, 1) := by decide +kernel
theorem d_Md_instruct_188 : decode b_Md_instruct 188 = .ok (.getfield 53, 3) := by decide +kernel
theorem d_Md_instruct_191 : decode b_Md_instruct 191 = .ok (.iload 4, 2) := by decide +kernel
theorem d_Md_instruct_193 : decode b_Md_instruct 193 = .ok (.iaload, 1) := by decide +kernel
theorem d_Md_instruct_194 : decode b_Md_instruct 194 = .ok (.imul, 1) := by decide +kernel
theorem d_Md_instruct_195 : decode b_Md_instruct 195 = .ok (.iastore, 1) := by decide +kernel
theorem d_Md_instruct_196 : decode b_Md_instruct 196 = .ok (.iconst 0, 1) := by decide +kernel
theorem d_Md_instruct_197 : decode b_Md_instruct 197 = .ok (.ireturn, 1) := by decide +kernel
theorem d_Md_instruct_198 : decode b_Md_instruct 198 = .ok (.aload_n 0, 1) := by decide +kernel
theorem d_Md_instruct_199 : decode b_Md_instruct 199 = .ok (.getfield 53, 3) := by decide +kernel
theorem d_Md_instruct_202 : decode b_Md_instruct 202 = .ok (.iload_n 3, 1) := by decide +kernel
theorem d_Md_instruct_203 : decode b_Md_instruct 203 = .ok (.aload_n 0, 1) := by decide +kernel
theorem d_Md_instruct_204 : decode b_Md_instruct 204 = .ok (.getfield 37, 3) := by decide +kernel
theorem d_Md_instruct_207 : decode b_Md_instruct 207 = .ok (.aload_n 0, 1) := by decide +kernel
theorem d_Md_instruct_208 : decode b_Md_instruct 208 = .ok (.getfield 53, 3) := by decide +kernel
theorem d_Md_instruct_211 : decode b_Md_instruct 211 = .ok (.iload 4, 2) := by decide +kernel
theorem d_Md_instruct_213 : decode b_Md_instruct 213 = .ok (.iaload, 1) := by decide +kernel
theorem d_Md_instruct_214 : decode b_Md_instruct 214 = .ok (.bipush 15, 2) := by decide +kernel
theorem d_Md_instruct_216 : decode b_Md_instruct 216 = .ok (.iand, 1) := by decide +kernel
theorem d_Md_instruct_217 : decode b_Md_instruct 217 = .ok (.iaload, 1) := by decide +kernel
theorem d_Md_instruct_218 : decode b_Md_instruct 218 = .ok (.iastore, 1) := by decide +kernel
theorem d_Md_instruct_219 : decode b_Md_instruct 219 = .ok (.iconst 0, 1) := by decide +kernel
theorem d_Md_instruct_220 : decode b_Md_instruct 220 = .ok (.ireturn, 1) := by decide +kernel
theorem d_Md_instruct_221 : decode b_Md_instruct 221 = .ok (.aload_n 0, 1) := by decide +kernel
theorem d_Md_instruct_222 : decode b_Md_instruct 222 = .ok (.getfield 37, 3) := by decide +kernel
theorem d_Md_instruct_225 : decode b_Md_instruct 225 = .ok (.aload_n 0, 1) := by decide +kernel
theorem d_Md_instruct_226 : decode b_Md_instruct 226 = .ok (.getfield 53, 3) := by decide +kernel
theorem d_Md_instruct_229 : decode b_Md_instruct 229 = .ok (.iload 4, 2) := by decide +kernel
theorem d_Md_instruct_231 : decode b_Md_instruct 231 = .ok (.iaload, 1) := by decide +kernel
theorem d_Md_instruct_232 : decode b_Md_instruct 232 = .ok (.bipush 15, 2) := by decide +kernel
theorem d_Md_instruct_234 : decode b_Md_instruct 234 = .ok (.iand, 1) := by decide +kernel
theorem d_Md_instruct_235 : decode b_Md_instruct 235 = .ok (.aload_n 0, 1) := by decide +kernel
theorem d_Md_instruct_236 : decode b_Md_instruct 236 = .ok (.getfield 53, 3) := by decide +kernel
theorem d_Md_instruct_239 : decode b_Md_instruct 239 = .ok (.iload_n 3, 1) := by decide +kernel
theorem d_Md_instruct_240 : decode b_Md_instruct 240 = .ok (.iaload, 1) := by decide +kernel
theorem d_Md_instruct_241 : decode b_Md_instruct 241 = .ok (.iastore, 1) := by decide +kernel
theorem d_Md_instruct_242 : decode b_Md_instruct 242 = .ok (.iconst 0, 1) := by decide +kernel
theorem d_Md_instruct_243 : decode b_Md_instruct 243 = .ok (.ireturn, 1) := by decide +kernel
theorem d_Md_instruct_244 : decode b_Md_instruct 244 = .ok (.aload_n 0, 1) := by decide +kernel
theorem d_Md_instruct_245 : decode b_Md_instruct 245 = .ok (.getfield 50, 3) := by decide +kernel
theorem d_Md_instruct_248 : decode b_Md_instruct 248 = .ok (.iload_n 1, 1) := by decide +kernel
theorem d_Md_instruct_249 : decode b_Md_instruct 249 = .ok (.aload_n 0, 1) := by decide +kernel
theorem d_Md_instruct_250 : decode b_Md_instruct 250 = .ok (.getfield 53, 3) := by decide +kernel
theorem d_Md_instruct_253 : decode b_Md_instruct 253 = .ok (.iload_n 3, 1) := by decide +kernel
theorem d_Md_instruct_254 : decode b_Md_instruct 254 = .ok (.iaload, 1) := by decide +kernel
theorem d_Md_instruct_255 : decode b_Md_instruct 255 = .ok (.ifCond .ne 11, 3) := by decide +kernel
theorem d_Md_instruct_258 : decode b_Md_instruct 258 = .ok (.iload 5, 2) := by decide +kernel
theorem d_Md_instruct_260 : decode b_Md_instruct 260 = .ok (.bipush 63, 2) := by decide +kernel
theorem d_Md_instruct_262 : decode b_Md_instruct 262 = .ok (.iand, 1) := by decide +kernel
theorem d_Md_instruct_263 : decode b_Md_instruct 263 = .ok (.goto 9, 3) := by decide +kernel
theorem d_Md_instruct_266 : decode b_Md_instruct 266 = .ok (.aload_n 0, 1) := by decide +kernel
theorem d_Md_instruct_267 : decode b_Md_instruct 267 = .ok (.getfield 50, 3) := by decide +kernel
theorem d_Md_instruct_270 : decode b_Md_instruct 270 = .ok (.iload_n 1, 1) := by decide +kernel
theorem d_Md_instruct_271 : decode b_Md_instruct 271 = .ok (.iaload, 1) := by decide +kernel
theorem d_Md_instruct_272 : decode b_Md_instruct 272 = .ok (.iastore, 1) := by decide +kernel
theorem d_Md_instruct_273 : decode b_Md_instruct 273 = .ok (.iconst 0, 1) := by decide +kernel
theorem d_Md_instruct_274 : decode b_Md_instruct 274 = .ok (.ireturn, 1) := by decide +kernel
theorem d_Md_instruct_275 : decode b_Md_instruct 275 = .ok (.aload_n 0, 1) := by decide +kernel
theorem d_Md_instruct_276 : decode b_Md_instruct 276 = .ok (.getfield 50, 3) := by decide +kernel
theorem d_Md_instruct_279 : decode b_Md_instruct 279 = .ok (.iload_n 1, 1) := by decide +kernel
theorem d_Md_instruct_280 : decode b_Md_instruct 280 = .ok (.aload_n 0, 1) := by decide +kernel
theorem d_Md_instruct_281 : decode b_Md_instruct 281 = .ok (.getfield 53, 3) := by decide +kernel
theorem d_Md_instruct_284 : decode b_Md_instruct 284 = .ok (.iload_n 3, 1) := by decide +kernel
theorem d_Md_instruct_285 : decode b_Md_instruct 285 = .ok (.iaload, 1) := by decide +kernel
theorem d_Md_instruct_286 : decode b_Md_instruct 286 = .ok (.ifCond .ge 11, 3) := by decide +kernel
theorem d_Md_instruct_289 : decode b_Md_instruct 289 = .ok (.iload 5, 2) := by decide +kernel
theorem d_Md_instruct_291 : decode b_Md_instruct 291 = .ok (.bipush 63, 2) := by decide +kernel
theorem d_Md_instruct_293 : decode b_Md_instruct 293 = .ok (.iand, 1) := by decide +kernel
theorem d_Md_instruct_294 : decode b_Md_instruct 294 = .ok (.goto 9, 3) := by decide +kernel
theorem d_Md_instruct_297 : decode b_Md_instruct 297 = .ok (.aload_n 0, 1) := by decide +kernel
theorem d_Md_instruct_298 : decode b_Md_instruct 298 = .ok (.getfield 50, 3) := by decide +kernel
theorem d_Md_instruct_301 : decode b_Md_instruct 301 = .ok (.iload_n 1, 1) := by decide +kernel
theorem d_Md_instruct_302 : decode b_Md_instruct 302 = .ok (.iaload, 1) := by decide +kernel
theorem d_Md_instruct_303 : decode b_Md_instruct 303 = .ok (.iastore, 1) := by decide +kernel
theorem d_Md_instruct_304 : decode b_Md_instruct 304 = .ok (.iconst 0, 1) := by decide +kernel
theorem d_Md_instruct_305 : decode b_Md_instruct 305 = .ok (.ireturn, 1) := by decide +kernel
theorem d_Md_instruct_306 : decode b_Md_instruct 306 = .ok (.aload_n 0, 1) := by decide +kernel
theorem d_Md_instruct_307 : decode b_Md_instruct 307 = .ok (.getfield 50, 3) := by decide +kernel
theorem d_Md_instruct_310 : decode b_Md_instruct 310 = .ok (.iload_n 1, 1) := by decide +kernel
theorem d_Md_instruct_311 : decode b_Md_instruct 311 = .ok (.iload 5, 2) := by decide +kernel
theorem d_Md_instruct_313 : decode b_Md_instruct 313 = .ok (.bipush 63, 2) := by decide +kernel
theorem d_Md_instruct_315 : decode b_Md_instruct 315 = .ok (.iand, 1) := by decide +kernel
theorem d_Md_instruct_316 : decode b_Md_instruct 316 = .ok (.iastore, 1) := by decide +kernel
theorem d_Md_instruct_317 : decode b_Md_instruct 317 = .ok (.iconst 0, 1) := by decide +kernel
theorem d_Md_instruct_318 : decode b_Md_instruct 318 = .ok (.ireturn, 1) := by decide +kernel
theorem d_Md_instruct_319 : decode b_Md_instruct 319 = .ok (.aload_n 0, 1) := by decide +kernel
theorem d_Md_instruct_320 : decode b_Md_instruct 320 = .ok (.getfield 53, 3) := by decide +kernel
theorem d_Md_instruct_323 : decode b_Md_instruct 323 = .ok (.iload_n 3, 1) := by decide +kernel
theorem d_Md_instruct_324 : decode b_Md_instruct 324 = .ok (.aload_n 0, 1) := by decide +kernel
theorem d_Md_instruct_325 : decode b_Md_instruct 325 = .ok (.getfield 53, 3) := by decide +kernel
theorem d_Md_instruct_328 : decode b_Md_instruct 328 = .ok (.iload_n 3, 1) := by decide +kernel
theorem d_Md_instruct_329 : decode b_Md_instruct 329 = .ok (.iaload, 1) := by decide +kernel
theorem d_Md_instruct_330 : decode b_Md_instruct 330 = .ok (.iload 5, 2) := by decide +kernel
theorem d_Md_instruct_332 : decode b_Md_instruct 332 = .ok (.iadd, 1) := by decide +kernel
theorem d_Md_instruct_333 : decode b_Md_instruct 333 = .ok (.iastore, 1) := by decide +kernel
theorem d_Md_instruct_334 : decode b_Md_instruct 334 = .ok (.iconst 0, 1) := by decide +kernel
theorem d_Md_instruct_335 : decode b_Md_instruct 335 = .ok (.ireturn, 1) := by decide +kernel
theorem d_Md_instruct_336 : decode b_Md_instruct 336 = .ok (.iconst 2, 1) := by decide +kernel
theorem d_Md_instruct_337 : decode b_Md_instruct 337 = .ok (.ireturn, 1) := by decide +kernel
theorem d_Md_ticks_0 : decode b_Md_ticks 0 = .ok (.aload_n 0, 1) := by decide +kernel
theorem d_Md_ticks_1 : decode b_Md_ticks 1 = .ok (.aload_n 0, 1) := by decide +kernel
theorem d_Md_ticks_2 : decode b_Md_ticks 2 = .ok (.getfield 66, 3) := by decide +kernel
theorem d_Md_ticks_5 : decode b_Md_ticks 5 = .ok (.ifCond .ne 7, 3) := by decide +kernel
theorem d_Md_ticks_8 : decode b_Md_ticks 8 = .ok (.iconst 1, 1) := by decide +kernel
theorem d_Md_ticks_9 : decode b_Md_ticks 9 = .ok (.goto 20, 3) := by decide +kernel
theorem d_Md_ticks_12 : decode b_Md_ticks 12 = .ok (.iload_n 1, 1) := by decide +kernel
theorem d_Md_ticks_13 : decode b_Md_ticks 13 = .ok (.iconst 1, 1) := by decide +kernel
theorem d_Md_ticks_14 : decode b_Md_ticks 14 = .ok (.if_icmp .lt 10, 3) := by decide +kernel
theorem d_Md_ticks_17 : decode b_Md_ticks 17 = .ok (.iload_n 1, 1) := by decide +kernel
theorem d_Md_ticks_18 : decode b_Md_ticks 18 = .ok (.sipush 500, 3) := by decide +kernel
theorem d_Md_ticks_21 : decode b_Md_ticks 21 = .ok (.if_icmp .le 7, 3) := by decide +kernel
theorem d_Md_ticks_24 : decode b_Md_ticks 24 = .ok (.iconst 2, 1) := by decide +kernel
theorem d_Md_ticks_25 : decode b_Md_ticks 25 = .ok (.goto 4, 3) := by decide +kernel
theorem d_Md_ticks_28 : decode b_Md_ticks 28 = .ok (.iconst 0, 1) := by decide +kernel
theorem d_Md_ticks_29 : decode b_Md_ticks 29 = .ok (.invokevirtual 70, 3) := by decide +kernel
theorem d_Md_ticks_32 : decode b_Md_ticks 32 = .ok (.ifCond .eq 5, 3) := by decide +kernel
theorem d_Md_ticks_35 : decode b_Md_ticks 35 = .ok (.iconst 0, 1) := by decide +kernel
theorem d_Md_ticks_36 : decode b_Md_ticks 36 = .ok (.ireturn, 1) := by decide +kernel
theorem d_Md_ticks_37 : decode b_Md_ticks 37 = .ok (.iconst 0, 1) := by decide +kernel
theorem d_Md_ticks_38 : decode b_Md_ticks 38 = .ok (.istore_n 2, 1) := by decide +kernel
theorem d_Md_ticks_39 : decode b_Md_ticks 39 = .ok (.iconst 0, 1) := by decide +kernel
theorem d_Md_ticks_40 : decode b_Md_ticks 40 = .ok (.istore_n 3, 1) := by decide +kernel
theorem d_Md_ticks_41 : decode b_Md_ticks 41 = .ok (.iload_n 3, 1) := by decide +kernel
theorem d_Md_ticks_42 : decode b_Md_ticks 42 = .ok (.iload_n 1, 1) := by decide +kernel
theorem d_Md_ticks_43 : decode b_Md_ticks 43 = .ok (.if_icmp .ge 24, 3) := by decide +kernel
theorem d_Md_ticks_46 : decode b_Md_ticks 46 = .ok (.aload_n 0, 1) := by decide +kernel
theorem d_Md_ticks_47 : decode b_Md_ticks 47 = .ok (.invokevirtual 121, 3) := by decide +kernel
theorem d_Md_ticks_50 : decode b_Md_ticks 50 = .ok (.ifCond .lt 9, 3) := by decide +kernel
theorem d_Md_ticks_53 : decode b_Md_ticks 53 = .ok (.iload_n 2, 1) := by decide +kernel
theorem d_Md_ticks_54 : decode b_Md_ticks 54 = .ok (.iconst 1, 1) := by decide +kernel
theorem d_Md_ticks_55 : decode b_Md_ticks 55 = .ok (.iadd, 1) := by decide +kernel
theorem d_Md_ticks_56 : decode b_Md_ticks 56 = .ok (.goto 4, 3) := by decide +kernel
theorem d_Md_ticks_59 : decode b_Md_ticks 59 = .ok (.iload_n 2, 1) := by decide +kernel
theorem d_Md_ticks_60 : decode b_Md_ticks 60 = .ok (.istore_n 2, 1) := by decide +kernel
theorem d_Md_ticks_61 : decode b_Md_ticks 61 = .ok (.iinc 3 1, 3) := by decide +kernel
theorem d_Md_ticks_64 : decode b_Md_ticks 64 = .ok (.goto (-23), 3) := by decide +kernel
theorem d_Md_ticks_67 : decode b_Md_ticks 67 = .ok (.iload_n 2, 1) := by decide +kernel
theorem d_Md_ticks_68 : decode b_Md_ticks 68 = .ok (.ireturn, 1) := by decide +kernel
theorem d_Md_time_0 : decode b_Md_time 0 = .ok (.aload_n 0, 1) := by decide +kernel
theorem d_Md_time_1 : decode b_Md_time 1 = .ok (.iconst 0, 1) := by decide +kernel
theorem d_Md_time_2 : decode b_Md_time 2 = .ok (.putfield 62, 3) := by decide +kernel
theorem d_Md_time_5 : decode b_Md_time 5 = .ok (.aload_n 0, 1) := by decide +kernel
theorem d_Md_time_6 : decode b_Md_time 6 = .ok (.getfield 111, 3) := by decide +kernel
theorem d_Md_time_9 : decode b_Md_time 9 = .ok (.ireturn, 1) := by decide +kernel
theorem d_Md_count_0 : decode b_Md_count 0 = .ok (.aload_n 0, 1) := by decide +kernel
theorem d_Md_count_1 : decode b_Md_count 1 = .ok (.iload_n 1, 1) := by decide +kernel
theorem d_Md_count_2 : decode b_Md_count 2 = .ok (.ifCond .lt 20, 3) := by decide +kernel
theorem d_Md_count_5 : decode b_Md_count 5 = .ok (.iload_n 1, 1) := by decide +kernel
theorem d_Md_count_6 : decode b_Md_count 6 = .ok (.aload_n 0, 1) := by decide +kernel
theorem d_Md_count_7 : decode b_Md_count 7 = .ok (.getfield 74, 3) := by decide +kernel
theorem d_Md_count_10 : decode b_Md_count 10 = .ok (.if_icmp .ge 12, 3) := by decide +kernel
theorem d_Md_count_13 : decode b_Md_count 13 = .ok (.iload_n 2, 1) := by decide +kernel
theorem d_Md_count_14 : decode b_Md_count 14 = .ok (.ifCond .lt 8, 3) := by decide +kernel
theorem d_Md_count_17 : decode b_Md_count 17 = .ok (.iload_n 2, 1) := by decide +kernel
theorem d_Md_count_18 : decode b_Md_count 18 = .ok (.iconst 3, 1) := by decide +kernel
theorem d_Md_count_19 : decode b_Md_count 19 = .ok (.if_icmp .le 7, 3) := by decide +kernel
theorem d_Md_count_22 : decode b_Md_count 22 = .ok (.iconst 1, 1) := by decide +kernel
theorem d_Md_count_23 : decode b_Md_count 23 = .ok (.goto 4, 3) := by decide +kernel
theorem d_Md_count_26 : decode b_Md_count 26 = .ok (.iconst 0, 1) := by decide +kernel
theorem d_Md_count_27 : decode b_Md_count 27 = .ok (.invokevirtual 70, 3) := by decide +kernel
theorem d_Md_count_30 : decode b_Md_count 30 = .ok (.ifCond .eq 7, 3) := by decide +kernel
theorem d_Md_count_33 : decode b_Md_count 33 = .ok (.iconst 0, 1) := by decide +kernel
theorem d_Md_count_34 : decode b_Md_count 34 = .ok (.goto 13, 3) := by decide +kernel
theorem d_Md_count_37 : decode b_Md_count 37 = .ok (.aload_n 0, 1) := by decide +kernel
theorem d_Md_count_38 : decode b_Md_count 38 = .ok (.getfield 56, 3) := by decide +kernel
theorem d_Md_count_41 : decode b_Md_count 41 = .ok (.iconst 4, 1) := by decide +kernel
theorem d_Md_count_42 : decode b_Md_count 42 = .ok (.iload_n 1, 1) := by decide +kernel
theorem d_Md_count_43 : decode b_Md_count 43 = .ok (.imul, 1) := by decide +kernel
theorem d_Md_count_44 : decode b_Md_count 44 = .ok (.iload_n 2, 1) := by decide +kernel
theorem d_Md_count_45 : decode b_Md_count 45 = .ok (.iadd, 1) := by decide +kernel
theorem d_Md_count_46 : decode b_Md_count 46 = .ok (.iaload, 1) := by decide +kernel
theorem d_Md_count_47 : decode b_Md_count 47 = .ok (.ireturn, 1) := by decide +kernel
theorem d_Md_shared_0 : decode b_Md_shared 0 = .ok (.aload_n 0, 1) := by decide +kernel
theorem d_Md_shared_1 : decode b_Md_shared 1 = .ok (.iload_n 1, 1) := by decide +kernel
theorem d_Md_shared_2 : decode b_Md_shared 2 = .ok (.ifCond .lt 9, 3) := by decide +kernel
theorem d_Md_shared_5 : decode b_Md_shared 5 = .ok (.iload_n 1, 1) := by decide +kernel
theorem d_Md_shared_6 : decode b_Md_shared 6 = .ok (.bipush 15, 2) := by decide +kernel
theorem d_Md_shared_8 : decode b_Md_shared 8 = .ok (.if_icmp .le 7, 3) := by decide +kernel
theorem d_Md_shared_11 : decode b_Md_shared 11 = .ok (.iconst 1, 1) := by decide +kernel
theorem d_Md_shared_12 : decode b_Md_shared 12 = .ok (.goto 4, 3) := by decide +kernel
theorem d_Md_shared_15 : decode b_Md_shared 15 = .ok (.iconst 0, 1) := by decide +kernel
theorem d_Md_shared_16 : decode b_Md_shared 16 = .ok (.invokevirtual 70, 3) := by decide +kernel
theorem d_Md_shared_19 : decode b_Md_shared 19 = .ok (.ifCond .eq 7, 3) := by decide +kernel
theorem d_Md_shared_22 : decode b_Md_shared 22 = .ok (.iconst 0, 1) := by decide +kernel
theorem d_Md_shared_23 : decode b_Md_shared 23 = .ok (.goto 9, 3) := by decide +kernel
theorem d_Md_shared_26 : decode b_Md_shared 26 = .ok (.aload_n 0, 1) := by decide +kernel
theorem d_Md_shared_27 : decode b_Md_shared 27 = .ok (.getfield 37, 3) := by decide +kernel
theorem d_Md_shared_30 : decode b_Md_shared 30 = .ok (.iload_n 1, 1) := by decide +kernel
theorem d_Md_shared_31 : decode b_Md_shared 31 = .ok (.iaload, 1) := by decide +kernel
theorem d_Md_shared_32 : decode b_Md_shared 32 = .ok (.ireturn, 1) := by decide +kernel
