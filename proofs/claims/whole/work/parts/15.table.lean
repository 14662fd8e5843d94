def cd_L : List (Nat × xI) := cd_L_0 ++ (cd_L_1 ++ (cd_L_2 ++ (cd_L_3 ++ (cd_L_4 ++ (cd_L_5 ++ (cd_L_6 ++ (cd_L_7 ++ (cd_L_8 ++ (cd_L_9 ++ (cd_L_10 ++ (cd_L_11 ++ (cd_L_12 ++ (cd_L_13 ++ (cd_L_14 ++ (cd_L_15 ++ (cd_L_16))))))))))))))))
theorem cj_L {nm : String} : ∀ e ∈ cd_L, JJ "KiltRoomLaw" code 4 (some .boolean) nm e.1 e.2 := (List.forall_mem_append.mpr ⟨cj_L_0, (List.forall_mem_append.mpr ⟨cj_L_1, (List.forall_mem_append.mpr ⟨cj_L_2, (List.forall_mem_append.mpr ⟨cj_L_3, (List.forall_mem_append.mpr ⟨cj_L_4, (List.forall_mem_append.mpr ⟨cj_L_5, (List.forall_mem_append.mpr ⟨cj_L_6, (List.forall_mem_append.mpr ⟨cj_L_7, (List.forall_mem_append.mpr ⟨cj_L_8, (List.forall_mem_append.mpr ⟨cj_L_9, (List.forall_mem_append.mpr ⟨cj_L_10, (List.forall_mem_append.mpr ⟨cj_L_11, (List.forall_mem_append.mpr ⟨cj_L_12, (List.forall_mem_append.mpr ⟨cj_L_13, (List.forall_mem_append.mpr ⟨cj_L_14, (List.forall_mem_append.mpr ⟨cj_L_15, cj_L_16⟩)⟩)⟩)⟩)⟩)⟩)⟩)⟩)⟩)⟩)⟩)⟩)⟩)⟩)⟩)⟩)
def xTl : List (List (Nat × xI)) := [cd_0, cd_1, cd_2, cd_3, cd_4, cd_5, cd_6, cd_7, cd_8, cd_9, cd_10, cd_11, cd_12, cd_13, cd_14, cd_15, cd_16, cd_17, cd_18, cd_19, cd_20, cd_21, cd_22, cd_23, cd_24, cd_25, cd_26, cd_27, cd_28, cd_29, cd_30, cd_31, cd_32, cd_33, cd_34, cd_35, cd_36, cd_37, cd_38, cd_39, cd_40, cd_41, cd_42, cd_43, cd_44, cd_45, cd_46, cd_47, cd_48, cd_49, cd_50, cd_51, cd_52, cd_53, cd_54, cd_55, cd_56, cd_57, cd_58, cd_59, cd_60, cd_61, cd_62, cd_63, cd_64, cd_65, cd_66, cd_67, cd_68, cd_69, cd_70, cd_71, cd_72, cd_73, cd_74, cd_75, cd_76, cd_77, cd_78, cd_79, cd_80, cd_81, cd_82, cd_83, cd_84, cd_85, cd_86, cd_87, cd_88, cd_89, cd_90, cd_91, cd_92, cd_93, cd_94, cd_95, cd_96, cd_97, cd_98, cd_99, cd_100, cd_101, cd_102, cd_103, cd_104, cd_105, cd_106, cd_107, cd_108, cd_109, cd_110, cd_111, cd_112, cd_113, cd_114, cd_115, cd_116, cd_117, cd_118, cd_119, cd_120, cd_121, cd_122, cd_123, cd_124, cd_125, cd_126, cd_127, cd_128, cd_129, cd_130, cd_131, cd_132, cd_133, cd_134, cd_135, cd_136, cd_137, cd_138, cd_139, cd_140, cd_141, cd_142, cd_143, cd_144, cd_145, cd_146, cd_147, cd_148, cd_149, cd_150, cd_151, cd_152, cd_153, cd_154, cd_155, cd_156, cd_157, cd_158, cd_159, cd_160, cd_161, cd_162, cd_163, cd_164, cd_165, cd_166, cd_167, cd_168, cd_169, cd_170, cd_171, cd_172, cd_173, cd_174, cd_175, cd_176, cd_177, cd_178, cd_179, cd_180, cd_181, cd_182, cd_183, cd_184, cd_185, cd_186, cd_187, cd_188, cd_189, cd_190, cd_191, cd_192, cd_193, cd_194, cd_195, cd_196, cd_197, cd_198, cd_199, cd_200, cd_201]
def xT (i : Nat) : Nat → xI := xget (xTl.getD i [])
abbrev jT (i : Nat) : Prop := ∀ pc, JJ (yy i).cls (mb i) (mL i) (mR i) (yy i).name pc (xT i pc)
set_option maxRecDepth 20000 in
theorem jT_0 : jT 0 := xget_JJ cj_0
set_option maxRecDepth 20000 in
theorem jT_1 : jT 1 := xget_JJ cj_1
set_option maxRecDepth 20000 in
theorem jT_2 : jT 2 := xget_JJ cj_2
set_option maxRecDepth 20000 in
theorem jT_3 : jT 3 := xget_JJ cj_3
set_option maxRecDepth 20000 in
theorem jT_4 : jT 4 := xget_JJ cj_4
set_option maxRecDepth 20000 in
theorem jT_5 : jT 5 := xget_JJ cj_5
set_option maxRecDepth 20000 in
theorem jT_6 : jT 6 := xget_JJ cj_6
set_option maxRecDepth 20000 in
theorem jT_7 : jT 7 := xget_JJ cj_7
set_option maxRecDepth 20000 in
theorem jT_8 : jT 8 := xget_JJ cj_8
set_option maxRecDepth 20000 in
theorem jT_9 : jT 9 := xget_JJ cj_9
set_option maxRecDepth 20000 in
theorem jT_10 : jT 10 := xget_JJ cj_10
set_option maxRecDepth 20000 in
theorem jT_11 : jT 11 := xget_JJ cj_11
set_option maxRecDepth 20000 in
theorem jT_12 : jT 12 := xget_JJ cj_12
set_option maxRecDepth 20000 in
theorem jT_13 : jT 13 := xget_JJ cj_13
set_option maxRecDepth 20000 in
theorem jT_14 : jT 14 := xget_JJ cj_14
set_option maxRecDepth 20000 in
theorem jT_15 : jT 15 := xget_JJ cj_15
set_option maxRecDepth 20000 in
theorem jT_16 : jT 16 := xget_JJ cj_16
set_option maxRecDepth 20000 in
theorem jT_17 : jT 17 := xget_JJ cj_17
set_option maxRecDepth 20000 in
theorem jT_18 : jT 18 := xget_JJ cj_18
set_option maxRecDepth 20000 in
theorem jT_19 : jT 19 := xget_JJ cj_19
set_option maxRecDepth 20000 in
theorem jT_20 : jT 20 := xget_JJ cj_20
set_option maxRecDepth 20000 in
theorem jT_21 : jT 21 := xget_JJ cj_21
set_option maxRecDepth 20000 in
theorem jT_22 : jT 22 := xget_JJ cj_22
set_option maxRecDepth 20000 in
theorem jT_23 : jT 23 := xget_JJ cj_23
set_option maxRecDepth 20000 in
theorem jT_24 : jT 24 := xget_JJ cj_24
set_option maxRecDepth 20000 in
theorem jT_25 : jT 25 := xget_JJ cj_25
set_option maxRecDepth 20000 in
theorem jT_26 : jT 26 := xget_JJ cj_26
set_option maxRecDepth 20000 in
theorem jT_27 : jT 27 := xget_JJ cj_27
set_option maxRecDepth 20000 in
theorem jT_28 : jT 28 := xget_JJ cj_28
set_option maxRecDepth 20000 in
theorem jT_29 : jT 29 := xget_JJ cj_29
set_option maxRecDepth 20000 in
theorem jT_30 : jT 30 := xget_JJ cj_30
set_option maxRecDepth 20000 in
theorem jT_31 : jT 31 := xget_JJ cj_31
set_option maxRecDepth 20000 in
theorem jT_32 : jT 32 := xget_JJ cj_32
set_option maxRecDepth 20000 in
theorem jT_33 : jT 33 := xget_JJ cj_33
set_option maxRecDepth 20000 in
theorem jT_34 : jT 34 := xget_JJ cj_34
set_option maxRecDepth 20000 in
theorem jT_35 : jT 35 := xget_JJ cj_35
set_option maxRecDepth 20000 in
theorem jT_36 : jT 36 := xget_JJ cj_36
set_option maxRecDepth 20000 in
theorem jT_37 : jT 37 := xget_JJ cj_37
set_option maxRecDepth 20000 in
theorem jT_38 : jT 38 := xget_JJ cj_38
set_option maxRecDepth 20000 in
theorem jT_39 : jT 39 := xget_JJ cj_39
set_option maxRecDepth 20000 in
theorem jT_40 : jT 40 := xget_JJ cj_40
set_option maxRecDepth 20000 in
theorem jT_41 : jT 41 := xget_JJ cj_41
set_option maxRecDepth 20000 in
theorem jT_42 : jT 42 := xget_JJ cj_42
set_option maxRecDepth 20000 in
theorem jT_43 : jT 43 := xget_JJ cj_43
set_option maxRecDepth 20000 in
theorem jT_44 : jT 44 := xget_JJ cj_44
set_option maxRecDepth 20000 in
theorem jT_45 : jT 45 := xget_JJ cj_45
set_option maxRecDepth 20000 in
theorem jT_46 : jT 46 := xget_JJ cj_46
set_option maxRecDepth 20000 in
theorem jT_47 : jT 47 := xget_JJ cj_47
set_option maxRecDepth 20000 in
theorem jT_48 : jT 48 := xget_JJ cj_48
set_option maxRecDepth 20000 in
theorem jT_49 : jT 49 := xget_JJ cj_49
set_option maxRecDepth 20000 in
theorem jT_50 : jT 50 := xget_JJ cj_50
set_option maxRecDepth 20000 in
theorem jT_51 : jT 51 := xget_JJ cj_51
set_option maxRecDepth 20000 in
theorem jT_52 : jT 52 := xget_JJ cj_52
set_option maxRecDepth 20000 in
theorem jT_53 : jT 53 := xget_JJ cj_53
set_option maxRecDepth 20000 in
theorem jT_54 : jT 54 := xget_JJ cj_54
set_option maxRecDepth 20000 in
theorem jT_55 : jT 55 := xget_JJ cj_55
set_option maxRecDepth 20000 in
theorem jT_56 : jT 56 := xget_JJ cj_56
set_option maxRecDepth 20000 in
theorem jT_57 : jT 57 := xget_JJ cj_57
set_option maxRecDepth 20000 in
theorem jT_58 : jT 58 := xget_JJ cj_58
set_option maxRecDepth 20000 in
theorem jT_59 : jT 59 := xget_JJ cj_59
set_option maxRecDepth 20000 in
theorem jT_60 : jT 60 := xget_JJ cj_60
set_option maxRecDepth 20000 in
theorem jT_61 : jT 61 := xget_JJ cj_61
set_option maxRecDepth 20000 in
theorem jT_62 : jT 62 := xget_JJ cj_62
set_option maxRecDepth 20000 in
theorem jT_63 : jT 63 := xget_JJ cj_63
set_option maxRecDepth 20000 in
theorem jT_64 : jT 64 := xget_JJ cj_64
set_option maxRecDepth 20000 in
theorem jT_65 : jT 65 := xget_JJ cj_65
set_option maxRecDepth 20000 in
theorem jT_66 : jT 66 := xget_JJ cj_66
set_option maxRecDepth 20000 in
theorem jT_67 : jT 67 := xget_JJ cj_67
set_option maxRecDepth 20000 in
theorem jT_68 : jT 68 := xget_JJ cj_68
set_option maxRecDepth 20000 in
theorem jT_69 : jT 69 := xget_JJ cj_69
set_option maxRecDepth 20000 in
theorem jT_70 : jT 70 := xget_JJ cj_70
set_option maxRecDepth 20000 in
theorem jT_71 : jT 71 := xget_JJ cj_71
set_option maxRecDepth 20000 in
theorem jT_72 : jT 72 := xget_JJ cj_72
set_option maxRecDepth 20000 in
theorem jT_73 : jT 73 := xget_JJ cj_73
set_option maxRecDepth 20000 in
theorem jT_74 : jT 74 := xget_JJ cj_74
set_option maxRecDepth 20000 in
theorem jT_75 : jT 75 := xget_JJ cj_75
set_option maxRecDepth 20000 in
theorem jT_76 : jT 76 := xget_JJ cj_76
set_option maxRecDepth 20000 in
theorem jT_77 : jT 77 := xget_JJ cj_77
set_option maxRecDepth 20000 in
theorem jT_78 : jT 78 := xget_JJ cj_78
set_option maxRecDepth 20000 in
theorem jT_79 : jT 79 := xget_JJ cj_79
set_option maxRecDepth 20000 in
theorem jT_80 : jT 80 := xget_JJ cj_80
set_option maxRecDepth 20000 in
theorem jT_81 : jT 81 := xget_JJ cj_81
set_option maxRecDepth 20000 in
theorem jT_82 : jT 82 := xget_JJ cj_82
set_option maxRecDepth 20000 in
theorem jT_83 : jT 83 := xget_JJ cj_83
set_option maxRecDepth 20000 in
theorem jT_84 : jT 84 := xget_JJ cj_84
set_option maxRecDepth 20000 in
theorem jT_85 : jT 85 := xget_JJ cj_85
set_option maxRecDepth 20000 in
theorem jT_86 : jT 86 := xget_JJ cj_86
set_option maxRecDepth 20000 in
theorem jT_87 : jT 87 := xget_JJ cj_87
set_option maxRecDepth 20000 in
theorem jT_88 : jT 88 := xget_JJ cj_88
set_option maxRecDepth 20000 in
theorem jT_89 : jT 89 := xget_JJ cj_89
set_option maxRecDepth 20000 in
theorem jT_90 : jT 90 := xget_JJ cj_90
set_option maxRecDepth 20000 in
theorem jT_91 : jT 91 := xget_JJ cj_91
set_option maxRecDepth 20000 in
theorem jT_92 : jT 92 := xget_JJ cj_92
set_option maxRecDepth 20000 in
theorem jT_93 : jT 93 := xget_JJ cj_93
set_option maxRecDepth 20000 in
theorem jT_94 : jT 94 := xget_JJ cj_94
set_option maxRecDepth 20000 in
theorem jT_95 : jT 95 := xget_JJ cj_95
set_option maxRecDepth 20000 in
theorem jT_96 : jT 96 := xget_JJ cj_96
set_option maxRecDepth 20000 in
theorem jT_97 : jT 97 := xget_JJ cj_97
set_option maxRecDepth 20000 in
theorem jT_98 : jT 98 := xget_JJ cj_98
set_option maxRecDepth 20000 in
theorem jT_99 : jT 99 := xget_JJ cj_99
set_option maxRecDepth 20000 in
theorem jT_100 : jT 100 := xget_JJ cj_100
set_option maxRecDepth 20000 in
theorem jT_101 : jT 101 := xget_JJ cj_101
set_option maxRecDepth 20000 in
theorem jT_102 : jT 102 := xget_JJ cj_102
set_option maxRecDepth 20000 in
theorem jT_103 : jT 103 := xget_JJ cj_103
set_option maxRecDepth 20000 in
theorem jT_104 : jT 104 := xget_JJ cj_104
set_option maxRecDepth 20000 in
theorem jT_105 : jT 105 := xget_JJ cj_105
set_option maxRecDepth 20000 in
theorem jT_106 : jT 106 := xget_JJ cj_106
set_option maxRecDepth 20000 in
theorem jT_107 : jT 107 := xget_JJ cj_107
set_option maxRecDepth 20000 in
theorem jT_108 : jT 108 := xget_JJ cj_108
set_option maxRecDepth 20000 in
theorem jT_109 : jT 109 := xget_JJ cj_109
set_option maxRecDepth 20000 in
theorem jT_110 : jT 110 := xget_JJ cj_110
set_option maxRecDepth 20000 in
theorem jT_111 : jT 111 := xget_JJ cj_111
set_option maxRecDepth 20000 in
theorem jT_112 : jT 112 := xget_JJ cj_112
set_option maxRecDepth 20000 in
theorem jT_113 : jT 113 := xget_JJ cj_113
set_option maxRecDepth 20000 in
theorem jT_114 : jT 114 := xget_JJ cj_114
set_option maxRecDepth 20000 in
theorem jT_115 : jT 115 := xget_JJ cj_115
set_option maxRecDepth 20000 in
theorem jT_116 : jT 116 := xget_JJ cj_116
set_option maxRecDepth 20000 in
theorem jT_117 : jT 117 := xget_JJ cj_117
set_option maxRecDepth 20000 in
theorem jT_118 : jT 118 := xget_JJ cj_118
set_option maxRecDepth 20000 in
theorem jT_119 : jT 119 := xget_JJ cj_119
set_option maxRecDepth 20000 in
theorem jT_120 : jT 120 := xget_JJ cj_120
set_option maxRecDepth 20000 in
theorem jT_121 : jT 121 := xget_JJ cj_121
set_option maxRecDepth 20000 in
theorem jT_122 : jT 122 := xget_JJ cj_122
set_option maxRecDepth 20000 in
theorem jT_123 : jT 123 := xget_JJ cj_123
set_option maxRecDepth 20000 in
theorem jT_124 : jT 124 := xget_JJ cj_124
set_option maxRecDepth 20000 in
theorem jT_125 : jT 125 := xget_JJ cj_125
set_option maxRecDepth 20000 in
theorem jT_126 : jT 126 := xget_JJ cj_126
set_option maxRecDepth 20000 in
theorem jT_127 : jT 127 := xget_JJ cj_127
set_option maxRecDepth 20000 in
theorem jT_128 : jT 128 := xget_JJ cj_128
set_option maxRecDepth 20000 in
theorem jT_129 : jT 129 := xget_JJ cj_129
set_option maxRecDepth 20000 in
theorem jT_130 : jT 130 := xget_JJ cj_130
set_option maxRecDepth 20000 in
theorem jT_131 : jT 131 := xget_JJ cj_131
set_option maxRecDepth 20000 in
theorem jT_132 : jT 132 := xget_JJ cj_132
set_option maxRecDepth 20000 in
theorem jT_133 : jT 133 := xget_JJ cj_133
set_option maxRecDepth 20000 in
theorem jT_134 : jT 134 := xget_JJ cj_134
set_option maxRecDepth 20000 in
theorem jT_135 : jT 135 := xget_JJ cj_135
set_option maxRecDepth 20000 in
theorem jT_136 : jT 136 := xget_JJ cj_136
set_option maxRecDepth 20000 in
theorem jT_137 : jT 137 := xget_JJ cj_137
set_option maxRecDepth 20000 in
theorem jT_138 : jT 138 := xget_JJ cj_138
set_option maxRecDepth 20000 in
theorem jT_139 : jT 139 := xget_JJ cj_139
set_option maxRecDepth 20000 in
theorem jT_140 : jT 140 := xget_JJ cj_140
set_option maxRecDepth 20000 in
theorem jT_141 : jT 141 := xget_JJ cj_141
set_option maxRecDepth 20000 in
theorem jT_142 : jT 142 := xget_JJ cj_142
set_option maxRecDepth 20000 in
theorem jT_143 : jT 143 := xget_JJ cj_143
set_option maxRecDepth 20000 in
theorem jT_144 : jT 144 := xget_JJ cj_144
set_option maxRecDepth 20000 in
theorem jT_145 : jT 145 := xget_JJ cj_145
set_option maxRecDepth 20000 in
theorem jT_146 : jT 146 := xget_JJ cj_146
set_option maxRecDepth 20000 in
theorem jT_147 : jT 147 := xget_JJ cj_147
set_option maxRecDepth 20000 in
theorem jT_148 : jT 148 := xget_JJ cj_148
set_option maxRecDepth 20000 in
theorem jT_149 : jT 149 := xget_JJ cj_149
set_option maxRecDepth 20000 in
theorem jT_150 : jT 150 := xget_JJ cj_150
set_option maxRecDepth 20000 in
theorem jT_151 : jT 151 := xget_JJ cj_151
set_option maxRecDepth 20000 in
theorem jT_152 : jT 152 := xget_JJ cj_152
set_option maxRecDepth 20000 in
theorem jT_153 : jT 153 := xget_JJ cj_153
set_option maxRecDepth 20000 in
theorem jT_154 : jT 154 := xget_JJ cj_154
set_option maxRecDepth 20000 in
theorem jT_155 : jT 155 := xget_JJ cj_155
set_option maxRecDepth 20000 in
theorem jT_156 : jT 156 := xget_JJ cj_156
set_option maxRecDepth 20000 in
theorem jT_157 : jT 157 := xget_JJ cj_157
set_option maxRecDepth 20000 in
theorem jT_158 : jT 158 := xget_JJ cj_158
set_option maxRecDepth 20000 in
theorem jT_159 : jT 159 := xget_JJ cj_159
set_option maxRecDepth 20000 in
theorem jT_160 : jT 160 := xget_JJ cj_160
set_option maxRecDepth 20000 in
theorem jT_161 : jT 161 := xget_JJ cj_161
set_option maxRecDepth 20000 in
theorem jT_162 : jT 162 := xget_JJ cj_162
set_option maxRecDepth 20000 in
theorem jT_163 : jT 163 := xget_JJ cj_163
set_option maxRecDepth 20000 in
theorem jT_164 : jT 164 := xget_JJ cj_164
set_option maxRecDepth 20000 in
theorem jT_165 : jT 165 := xget_JJ cj_165
set_option maxRecDepth 20000 in
theorem jT_166 : jT 166 := xget_JJ cj_166
set_option maxRecDepth 20000 in
theorem jT_167 : jT 167 := xget_JJ cj_167
set_option maxRecDepth 20000 in
theorem jT_168 : jT 168 := xget_JJ cj_168
set_option maxRecDepth 20000 in
theorem jT_169 : jT 169 := xget_JJ cj_169
set_option maxRecDepth 20000 in
theorem jT_170 : jT 170 := xget_JJ cj_170
set_option maxRecDepth 20000 in
theorem jT_171 : jT 171 := xget_JJ cj_171
set_option maxRecDepth 20000 in
theorem jT_172 : jT 172 := xget_JJ cj_172
set_option maxRecDepth 20000 in
theorem jT_173 : jT 173 := xget_JJ cj_173
set_option maxRecDepth 20000 in
theorem jT_174 : jT 174 := xget_JJ cj_174
set_option maxRecDepth 20000 in
theorem jT_175 : jT 175 := xget_JJ cj_175
set_option maxRecDepth 20000 in
theorem jT_176 : jT 176 := xget_JJ cj_176
set_option maxRecDepth 20000 in
theorem jT_177 : jT 177 := xget_JJ cj_177
set_option maxRecDepth 20000 in
theorem jT_178 : jT 178 := xget_JJ cj_178
set_option maxRecDepth 20000 in
theorem jT_179 : jT 179 := xget_JJ cj_179
set_option maxRecDepth 20000 in
theorem jT_180 : jT 180 := xget_JJ cj_180
set_option maxRecDepth 20000 in
theorem jT_181 : jT 181 := xget_JJ cj_181
set_option maxRecDepth 20000 in
theorem jT_182 : jT 182 := xget_JJ cj_182
set_option maxRecDepth 20000 in
theorem jT_183 : jT 183 := xget_JJ cj_183
set_option maxRecDepth 20000 in
theorem jT_184 : jT 184 := xget_JJ cj_184
set_option maxRecDepth 20000 in
theorem jT_185 : jT 185 := xget_JJ cj_185
set_option maxRecDepth 20000 in
theorem jT_186 : jT 186 := xget_JJ cj_186
set_option maxRecDepth 20000 in
theorem jT_187 : jT 187 := xget_JJ cj_187
set_option maxRecDepth 20000 in
theorem jT_188 : jT 188 := xget_JJ cj_188
set_option maxRecDepth 20000 in
theorem jT_189 : jT 189 := xget_JJ cj_189
set_option maxRecDepth 20000 in
theorem jT_190 : jT 190 := xget_JJ cj_190
set_option maxRecDepth 20000 in
theorem jT_191 : jT 191 := xget_JJ cj_191
set_option maxRecDepth 20000 in
theorem jT_192 : jT 192 := xget_JJ cj_192
set_option maxRecDepth 20000 in
theorem jT_193 : jT 193 := xget_JJ cj_193
set_option maxRecDepth 20000 in
theorem jT_194 : jT 194 := xget_JJ cj_194
set_option maxRecDepth 20000 in
theorem jT_195 : jT 195 := xget_JJ cj_195
set_option maxRecDepth 20000 in
theorem jT_196 : jT 196 := xget_JJ cj_196
set_option maxRecDepth 20000 in
theorem jT_197 : jT 197 := xget_JJ cj_197
set_option maxRecDepth 20000 in
theorem jT_198 : jT 198 := xget_JJ cj_198
set_option maxRecDepth 20000 in
theorem jT_199 : jT 199 := xget_JJ cj_199
set_option maxRecDepth 20000 in
theorem jT_200 : jT 200 := xget_JJ cj_200
set_option maxRecDepth 20000 in
theorem jT_201 : jT 201 := xget_JJ cj_201
theorem jTa_20 : ∀ a, a < 20 → jT a := (lt_s (lt_s (lt_s (lt_s (lt_s (lt_s (lt_s (lt_s (lt_s (lt_s (lt_s (lt_s (lt_s (lt_s (lt_s (lt_s (lt_s (lt_s (lt_s (lt_s lt_0 jT_0) jT_1) jT_2) jT_3) jT_4) jT_5) jT_6) jT_7) jT_8) jT_9) jT_10) jT_11) jT_12) jT_13) jT_14) jT_15) jT_16) jT_17) jT_18) jT_19)
theorem jTa_40 : ∀ a, a < 40 → jT a := (lt_s (lt_s (lt_s (lt_s (lt_s (lt_s (lt_s (lt_s (lt_s (lt_s (lt_s (lt_s (lt_s (lt_s (lt_s (lt_s (lt_s (lt_s (lt_s (lt_s jTa_20 jT_20) jT_21) jT_22) jT_23) jT_24) jT_25) jT_26) jT_27) jT_28) jT_29) jT_30) jT_31) jT_32) jT_33) jT_34) jT_35) jT_36) jT_37) jT_38) jT_39)
theorem jTa_60 : ∀ a, a < 60 → jT a := (lt_s (lt_s (lt_s (lt_s (lt_s (lt_s (lt_s (lt_s (lt_s (lt_s (lt_s (lt_s (lt_s (lt_s (lt_s (lt_s (lt_s (lt_s (lt_s (lt_s jTa_40 jT_40) jT_41) jT_42) jT_43) jT_44) jT_45) jT_46) jT_47) jT_48) jT_49) jT_50) jT_51) jT_52) jT_53) jT_54) jT_55) jT_56) jT_57) jT_58) jT_59)
theorem jTa_80 : ∀ a, a < 80 → jT a := (lt_s (lt_s (lt_s (lt_s (lt_s (lt_s (lt_s (lt_s (lt_s (lt_s (lt_s (lt_s (lt_s (lt_s (lt_s (lt_s (lt_s (lt_s (lt_s (lt_s jTa_60 jT_60) jT_61) jT_62) jT_63) jT_64) jT_65) jT_66) jT_67) jT_68) jT_69) jT_70) jT_71) jT_72) jT_73) jT_74) jT_75) jT_76) jT_77) jT_78) jT_79)
theorem jTa_100 : ∀ a, a < 100 → jT a := (lt_s (lt_s (lt_s (lt_s (lt_s (lt_s (lt_s (lt_s (lt_s (lt_s (lt_s (lt_s (lt_s (lt_s (lt_s (lt_s (lt_s (lt_s (lt_s (lt_s jTa_80 jT_80) jT_81) jT_82) jT_83) jT_84) jT_85) jT_86) jT_87) jT_88) jT_89) jT_90) jT_91) jT_92) jT_93) jT_94) jT_95) jT_96) jT_97) jT_98) jT_99)
theorem jTa_120 : ∀ a, a < 120 → jT a := (lt_s (lt_s (lt_s (lt_s (lt_s (lt_s (lt_s (lt_s (lt_s (lt_s (lt_s (lt_s (lt_s (lt_s (lt_s (lt_s (lt_s (lt_s (lt_s (lt_s jTa_100 jT_100) jT_101) jT_102) jT_103) jT_104) jT_105) jT_106) jT_107) jT_108) jT_109) jT_110) jT_111) jT_112) jT_113) jT_114) jT_115) jT_116) jT_117) jT_118) jT_119)
theorem jTa_140 : ∀ a, a < 140 → jT a := (lt_s (lt_s (lt_s (lt_s (lt_s (lt_s (lt_s (lt_s (lt_s (lt_s (lt_s (lt_s (lt_s (lt_s (lt_s (lt_s (lt_s (lt_s (lt_s (lt_s jTa_120 jT_120) jT_121) jT_122) jT_123) jT_124) jT_125) jT_126) jT_127) jT_128) jT_129) jT_130) jT_131) jT_132) jT_133) jT_134) jT_135) jT_136) jT_137) jT_138) jT_139)
theorem jTa_160 : ∀ a, a < 160 → jT a := (lt_s (lt_s (lt_s (lt_s (lt_s (lt_s (lt_s (lt_s (lt_s (lt_s (lt_s (lt_s (lt_s (lt_s (lt_s (lt_s (lt_s (lt_s (lt_s (lt_s jTa_140 jT_140) jT_141) jT_142) jT_143) jT_144) jT_145) jT_146) jT_147) jT_148) jT_149) jT_150) jT_151) jT_152) jT_153) jT_154) jT_155) jT_156) jT_157) jT_158) jT_159)
theorem jTa_180 : ∀ a, a < 180 → jT a := (lt_s (lt_s (lt_s (lt_s (lt_s (lt_s (lt_s (lt_s (lt_s (lt_s (lt_s (lt_s (lt_s (lt_s (lt_s (lt_s (lt_s (lt_s (lt_s (lt_s jTa_160 jT_160) jT_161) jT_162) jT_163) jT_164) jT_165) jT_166) jT_167) jT_168) jT_169) jT_170) jT_171) jT_172) jT_173) jT_174) jT_175) jT_176) jT_177) jT_178) jT_179)
theorem jTa_200 : ∀ a, a < 200 → jT a := (lt_s (lt_s (lt_s (lt_s (lt_s (lt_s (lt_s (lt_s (lt_s (lt_s (lt_s (lt_s (lt_s (lt_s (lt_s (lt_s (lt_s (lt_s (lt_s (lt_s jTa_180 jT_180) jT_181) jT_182) jT_183) jT_184) jT_185) jT_186) jT_187) jT_188) jT_189) jT_190) jT_191) jT_192) jT_193) jT_194) jT_195) jT_196) jT_197) jT_198) jT_199)
theorem jTa_202 : ∀ a, a < 202 → jT a := (lt_s (lt_s jTa_200 jT_200) jT_201)
theorem xT_sz : ∀ i pc ls st σ, szA σ (xT i pc ls st σ) := by
  intro i pc ls st σ
  by_cases h : i < 202
  · exact (jTa_202 i h pc).1 ls st σ
  · have e : xTl.getD i [] = [] := by
      rw [List.getD_eq_getElem?_getD, List.getElem?_eq_none (by show xTl.length ≤ i; have : xTl.length = 202 := rfl; omega)]
      rfl
    unfold xT
    rw [e]
    exact trivial
/-- the depth of calls that the law gives -/
theorem xT_sound (G : xG) (l : Launch) (d : Nat) : CallsOK G l d (xev xT d) := sound jTa_202 xT_sz G l d
