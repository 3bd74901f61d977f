set_option maxRecDepth 100000 in
theorem xk_140 : xm_cm xq_140 = true := by decide +kernel
set_option maxRecDepth 100000 in
theorem xk_141 : xm_cm xq_141 = true := by decide +kernel
set_option maxRecDepth 100000 in
theorem xk_142 : xm_cm xq_142 = true := by decide +kernel
set_option maxRecDepth 100000 in
theorem xk_143 : xm_cm xq_143 = true := by decide +kernel
set_option maxRecDepth 100000 in
theorem xk_144 : xm_cm xq_144 = true := by decide +kernel
set_option maxRecDepth 100000 in
theorem xk_145 : xm_cm xq_145 = true := by decide +kernel
set_option maxRecDepth 100000 in
theorem xk_146 : xm_cm xq_146 = true := by decide +kernel
set_option maxRecDepth 100000 in
theorem xk_147 : xm_cm xq_147 = true := by decide +kernel
set_option maxRecDepth 100000 in
theorem xk_148 : xm_cm xq_148 = true := by decide +kernel
set_option maxRecDepth 100000 in
theorem xk_149 : xm_cm xq_149 = true := by decide +kernel
set_option maxRecDepth 100000 in
theorem xk_150 : xm_cm xq_150 = true := by decide +kernel
set_option maxRecDepth 100000 in
theorem xk_151 : xm_cm xq_151 = true := by decide +kernel
set_option maxRecDepth 100000 in
theorem xk_152 : xm_cm xq_152 = true := by decide +kernel
set_option maxRecDepth 100000 in
theorem xk_153 : xm_cm xq_153 = true := by decide +kernel
set_option maxRecDepth 100000 in
theorem xk_154 : xm_cm xq_154 = true := by decide +kernel
set_option maxRecDepth 100000 in
theorem xk_155 : xm_cm xq_155 = true := by decide +kernel
set_option maxRecDepth 100000 in
theorem xk_156 : xm_cm xq_156 = true := by decide +kernel
set_option maxRecDepth 100000 in
theorem xk_157 : xm_cm xq_157 = true := by decide +kernel
set_option maxRecDepth 100000 in
theorem xk_158 : xm_cm xq_158 = true := by decide +kernel
set_option maxRecDepth 100000 in
theorem xk_159 : xm_cm xq_159 = true := by decide +kernel
set_option maxRecDepth 100000 in
theorem xk_160 : xm_cm xq_160 = true := by decide +kernel
set_option maxRecDepth 100000 in
theorem xk_161 : xm_cm xq_161 = true := by decide +kernel
set_option maxRecDepth 100000 in
theorem xk_162 : xm_cm xq_162 = true := by decide +kernel
set_option maxRecDepth 100000 in
theorem xk_163 : xm_cm xq_163 = true := by decide +kernel
set_option maxRecDepth 100000 in
theorem xk_164 : xm_cm xq_164 = true := by decide +kernel
set_option maxRecDepth 100000 in
theorem xk_165 : xm_cm xq_165 = true := by decide +kernel
set_option maxRecDepth 100000 in
theorem xk_166 : xm_cm xq_166 = true := by decide +kernel
set_option maxRecDepth 100000 in
theorem xk_167 : xm_cm xq_167 = true := by decide +kernel
set_option maxRecDepth 100000 in
theorem xk_168 : xm_cm xq_168 = true := by decide +kernel
set_option maxRecDepth 100000 in
theorem xk_169 : xm_cm xq_169 = true := by decide +kernel
set_option maxRecDepth 100000 in
theorem xk_170 : xm_cm xq_170 = true := by decide +kernel
set_option maxRecDepth 100000 in
theorem xk_171 : xm_cm xq_171 = true := by decide +kernel
theorem xm_all_cm : ∀ M ∈ xm_prog, xm_cm M = true := by
  unfold xm_prog
  intro M hM
  simp only [List.mem_cons, List.not_mem_nil, or_false] at hM
  rcases hM with rfl | rfl | rfl | rfl | rfl | rfl | rfl | rfl | rfl | rfl | rfl | rfl | rfl | rfl | rfl | rfl | rfl | rfl | rfl | rfl | rfl | rfl | rfl | rfl | rfl | rfl | rfl | rfl | rfl | rfl | rfl | rfl | rfl | rfl | rfl | rfl | rfl | rfl | rfl | rfl | rfl | rfl | rfl | rfl | rfl | rfl | rfl | rfl | rfl | rfl | rfl | rfl | rfl | rfl | rfl | rfl | rfl | rfl | rfl | rfl | rfl | rfl | rfl | rfl | rfl | rfl | rfl | rfl | rfl | rfl | rfl | rfl | rfl | rfl | rfl | rfl | rfl | rfl | rfl | rfl | rfl | rfl | rfl | rfl | rfl | rfl | rfl | rfl | rfl | rfl | rfl | rfl | rfl | rfl | rfl | rfl | rfl | rfl | rfl | rfl | rfl | rfl | rfl | rfl | rfl | rfl | rfl | rfl | rfl | rfl | rfl | rfl | rfl | rfl | rfl | rfl | rfl | rfl | rfl | rfl | rfl | rfl | rfl | rfl | rfl | rfl | rfl | rfl | rfl | rfl | rfl | rfl | rfl | rfl | rfl | rfl | rfl | rfl | rfl | rfl | rfl | rfl | rfl | rfl | rfl | rfl | rfl | rfl | rfl | rfl | rfl | rfl | rfl | rfl | rfl | rfl | rfl | rfl | rfl | rfl | rfl | rfl | rfl | rfl | rfl | rfl | rfl | rfl | rfl | rfl | rfl | rfl
  · exact xk_0
  · exact xk_0
  · exact xk_2
  · exact xk_3
  · exact xk_4
  · exact xk_5
  · exact xk_6
  · exact xk_7
  · exact xk_8
  · exact xk_9
  · exact xk_10
  · exact xk_11
  · exact xk_12
  · exact xk_13
  · exact xk_14
  · exact xk_15
  · exact xk_16
  · exact xk_17
  · exact xk_18
  · exact xk_19
  · exact xk_20
  · exact xk_21
  · exact xk_22
  · exact xk_23
  · exact xk_24
  · exact xk_25
  · exact xk_0
  · exact xk_0
  · exact xk_28
  · exact xk_29
  · exact xk_30
  · exact xk_31
  · exact xk_32
  · exact xk_33
  · exact xk_0
  · exact xk_35
  · exact xk_36
  · exact xk_37
  · exact xk_38
  · exact xk_39
  · exact xk_40
  · exact xk_41
  · exact xk_42
  · exact xk_43
  · exact xk_44
  · exact xk_45
  · exact xk_46
  · exact xk_47
  · exact xk_48
  · exact xk_49
  · exact xk_50
  · exact xk_51
  · exact xk_52
  · exact xk_53
  · exact xk_54
  · exact xk_55
  · exact xk_56
  · exact xk_57
  · exact xk_58
  · exact xk_59
  · exact xk_60
  · exact xk_61
  · exact xk_62
  · exact xk_63
  · exact xk_64
  · exact xk_65
  · exact xk_66
  · exact xk_67
  · exact xk_68
  · exact xk_69
  · exact xk_70
  · exact xk_71
  · exact xk_72
  · exact xk_73
  · exact xk_74
  · exact xk_75
  · exact xk_76
  · exact xk_77
  · exact xk_78
  · exact xk_79
  · exact xk_80
  · exact xk_81
  · exact xk_82
  · exact xk_83
  · exact xk_84
  · exact xk_85
  · exact xk_86
  · exact xk_87
  · exact xk_88
  · exact xk_89
  · exact xk_90
  · exact xk_91
  · exact xk_92
  · exact xk_93
  · exact xk_94
  · exact xk_95
  · exact xk_96
  · exact xk_97
  · exact xk_98
  · exact xk_99
  · exact xk_100
  · exact xk_101
  · exact xk_102
  · exact xk_103
  · exact xk_104
  · exact xk_105
  · exact xk_106
  · exact xk_107
  · exact xk_108
  · exact xk_109
  · exact xk_110
  · exact xk_111
  · exact xk_112
  · exact xk_113
  · exact xk_114
  · exact xk_115
  · exact xk_116
  · exact xk_117
  · exact xk_118
  · exact xk_119
  · exact xk_120
  · exact xk_121
  · exact xk_122
  · exact xk_123
  · exact xk_124
  · exact xk_125
  · exact xk_126
  · exact xk_127
  · exact xk_128
  · exact xk_129
  · exact xk_130
  · exact xk_131
  · exact xk_132
  · exact xk_133
  · exact xk_134
  · exact xk_135
  · exact xk_136
  · exact xk_137
  · exact xk_138
  · exact xk_139
  · exact xk_140
  · exact xk_141
  · exact xk_142
  · exact xk_143
  · exact xk_144
  · exact xk_145
  · exact xk_146
  · exact xk_147
  · exact xk_148
  · exact xk_149
  · exact xk_150
  · exact xk_151
  · exact xk_152
  · exact xk_153
  · exact xk_154
  · exact xk_155
  · exact xk_156
  · exact xk_157
  · exact xk_158
  · exact xk_159
  · exact xk_160
  · exact xk_161
  · exact xk_162
  · exact xk_163
  · exact xk_164
  · exact xk_165
  · exact xk_166
  · exact xk_167
  · exact xk_168
  · exact xk_169
  · exact xk_170
  · exact xk_171
theorem xm_pr_mem (i : Nat) : xm_pr i ∈ xm_prog := by
  unfold xm_pr
  rcases Nat.lt_or_ge i xm_prog.length with h | h
  · rw [List.getD_eq_getElem?_getD, List.getElem?_eq_getElem h]
    exact List.getElem_mem h
  · rw [List.getD_eq_getElem?_getD, List.getElem?_eq_none h]
    exact List.mem_cons_self

