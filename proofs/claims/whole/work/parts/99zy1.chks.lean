/-! ===== the checks, method by method (by wip/whole/mk_checks.py) ===== -/
set_option maxRecDepth 100000 in
set_option maxHeartbeats 4000000 in
theorem pk_93 : pg_chk 7 false none prog_9_method_4_code pp_93 0 cb_93_0 pp_93 = true := by decide +kernel
set_option maxRecDepth 100000 in
set_option maxHeartbeats 4000000 in
theorem pk_94 : pg_chk 7 false (some .int) prog_9_method_5_code pp_94 0 cb_94_0 pp_94 = true := by decide +kernel
set_option maxRecDepth 100000 in
set_option maxHeartbeats 4000000 in
theorem pk_95 : pg_chk 7 false (some .boolean) prog_9_method_6_code pp_95 0 cb_95_0 pp_95 = true := by decide +kernel
set_option maxRecDepth 100000 in
set_option maxHeartbeats 4000000 in
theorem pk_96 : pg_chk 7 false (some .int) prog_9_method_7_code pp_96 0 cb_96_0 pp_96 = true := by decide +kernel
set_option maxRecDepth 100000 in
set_option maxHeartbeats 4000000 in
theorem pk_97 : pg_chk 7 false (some .boolean) prog_9_method_8_code pp_97 0 cb_97_0 pp_97 = true := by decide +kernel
set_option maxRecDepth 100000 in
set_option maxHeartbeats 4000000 in
theorem pk_98 : pg_chk 7 false (some .int) prog_9_method_9_code pp_98 0 cb_98_0 pp_98 = true := by decide +kernel
set_option maxRecDepth 100000 in
set_option maxHeartbeats 4000000 in
theorem pk_99 : pg_chk 7 false none prog_9_method_10_code pp_99 0 cb_99_0 pp_99 = true := by decide +kernel
set_option maxRecDepth 100000 in
set_option maxHeartbeats 4000000 in
theorem pk_100 : pg_chk 7 false (some .long) prog_9_method_11_code pp_100 0 cb_100_0 pp_100 = true := by decide +kernel
set_option maxRecDepth 100000 in
set_option maxHeartbeats 4000000 in
theorem pk_101 : pg_chk 7 false none prog_9_method_12_code pp_101 0 cb_101_0 pp_101 = true := by decide +kernel
set_option maxRecDepth 100000 in
set_option maxHeartbeats 4000000 in
theorem pk_102 : pg_chk 7 false none prog_9_method_13_code pp_102 0 cb_102_0 pp_102 = true := by decide +kernel
set_option maxRecDepth 100000 in
set_option maxHeartbeats 4000000 in
theorem pk_103 : pg_chk 7 false none prog_9_method_14_code pp_103 0 cb_103_0 pp_103 = true := by decide +kernel
set_option maxRecDepth 100000 in
set_option maxHeartbeats 4000000 in
theorem pk_104 : pg_chk 7 false none prog_9_method_15_code pp_104 0 cb_104_0 pp_104 = true := by decide +kernel
set_option maxRecDepth 100000 in
set_option maxHeartbeats 4000000 in
theorem pk_105 : pg_chk 0 true none prog_2_method_1_code pp_105 0 cb_105_0 pp_105 = true := by decide +kernel
set_option maxRecDepth 100000 in
set_option maxHeartbeats 4000000 in
theorem pk_106 : pg_chk 0 false none prog_2_method_2_code pp_106 0 cb_106_0 pp_106 = true := by decide +kernel
set_option maxRecDepth 100000 in
set_option maxHeartbeats 4000000 in
theorem pk_107 : pg_chk 0 false none prog_2_method_3_code pp_107 0 cb_107_0 pp_107 = true := by decide +kernel
set_option maxRecDepth 100000 in
set_option maxHeartbeats 4000000 in
theorem pk_108 : pg_chk 0 false (some .int) prog_2_method_4_code pp_108 0 cb_108_0 pp_108 = true := by decide +kernel
set_option maxRecDepth 100000 in
set_option maxHeartbeats 4000000 in
theorem pk_109 : pg_chk 0 false (some .int) prog_2_method_5_code pp_109 0 cb_109_0 pp_109 = true := by decide +kernel
set_option maxRecDepth 100000 in
set_option maxHeartbeats 4000000 in
theorem pk_110 : pg_chk 0 false (some .int) prog_2_method_6_code pp_110 0 cb_110_0 pp_110 = true := by decide +kernel
set_option maxRecDepth 100000 in
set_option maxHeartbeats 4000000 in
theorem pk_111 : pg_chk 0 false (some .boolean) prog_2_method_7_code pp_111 0 cb_111_0 pp_111 = true := by decide +kernel
set_option maxRecDepth 100000 in
set_option maxHeartbeats 4000000 in
theorem pk_112 : pg_chk 0 false none prog_2_method_8_code pp_112 0 cb_112_0 pp_112 = true := by decide +kernel
set_option maxRecDepth 100000 in
set_option maxHeartbeats 4000000 in
theorem pk_113 : pg_chk 0 false none prog_2_method_9_code pp_113 0 cb_113_0 pp_113 = true := by decide +kernel
set_option maxRecDepth 100000 in
set_option maxHeartbeats 4000000 in
theorem pk_114 : pg_chk 0 false (some .boolean) prog_2_method_10_code pp_114 0 cb_114_0 pp_114 = true := by decide +kernel
set_option maxRecDepth 100000 in
set_option maxHeartbeats 4000000 in
theorem pk_115 : pg_chk 0 false (some .int) prog_2_method_11_code pp_115 0 cb_115_0 pp_115 = true := by decide +kernel
set_option maxRecDepth 100000 in
set_option maxHeartbeats 4000000 in
theorem pk_116 : pg_chk 0 false (some .int) prog_2_method_12_code pp_116 0 cb_116_0 pp_116 = true := by decide +kernel
set_option maxRecDepth 100000 in
set_option maxHeartbeats 4000000 in
theorem pk_117 : pg_chk 0 false (some .int) prog_2_method_13_code pp_117 0 cb_117_0 pp_117 = true := by decide +kernel
set_option maxRecDepth 100000 in
set_option maxHeartbeats 4000000 in
theorem pk_118 : pg_chk 0 false (some .int) prog_2_method_14_code pp_118 0 cb_118_0 pp_118 = true := by decide +kernel
set_option maxRecDepth 100000 in
set_option maxHeartbeats 4000000 in
theorem pk_119 : pg_chk 3 true none prog_5_method_1_code pp_119 0 cb_119_0 pp_119 = true := by decide +kernel
set_option maxRecDepth 100000 in
set_option maxHeartbeats 4000000 in
theorem pk_120 : pg_chk 3 false (some .int) prog_5_method_2_code pp_120 0 cb_120_0 pp_120 = true := by decide +kernel
set_option maxRecDepth 100000 in
set_option maxHeartbeats 4000000 in
theorem pk_121 : pg_chk 3 false none prog_5_method_3_code pp_121 0 cb_121_0 pp_121 = true := by decide +kernel
set_option maxRecDepth 100000 in
set_option maxHeartbeats 4000000 in
theorem pk_122 : pg_chk 3 false none prog_5_method_4_code pp_122 0 cb_122_0 pp_122 = true := by decide +kernel
set_option maxRecDepth 100000 in
set_option maxHeartbeats 4000000 in
theorem pk_123 : pg_chk 3 false (some .int) prog_5_method_5_code pp_123 0 cb_123_0 pp_123 = true := by decide +kernel
set_option maxRecDepth 100000 in
set_option maxHeartbeats 4000000 in
theorem pk_124 : pg_chk 3 false (some .int) prog_5_method_6_code pp_124 0 cb_124_0 pp_124 = true := by decide +kernel
set_option maxRecDepth 100000 in
set_option maxHeartbeats 4000000 in
theorem pk_125 : pg_chk 3 false none prog_5_method_7_code pp_125 0 cb_125_0 pp_125 = true := by decide +kernel
set_option maxRecDepth 100000 in
set_option maxHeartbeats 4000000 in
theorem pk_126 : pg_chk 3 false (some .boolean) prog_5_method_8_code pp_126 0 cb_126_0 pp_126 = true := by decide +kernel
set_option maxRecDepth 100000 in
set_option maxHeartbeats 4000000 in
theorem pk_127 : pg_chk 3 false (some .boolean) prog_5_method_9_code pp_127 0 cb_127_0 pp_127 = true := by decide +kernel
set_option maxRecDepth 100000 in
set_option maxHeartbeats 4000000 in
theorem pk_128 : pg_chk 3 false (some .boolean) prog_5_method_10_code pp_128 0 cb_128_0 pp_128 = true := by decide +kernel
set_option maxRecDepth 100000 in
set_option maxHeartbeats 4000000 in
theorem pk_129 : pg_chk 3 false none prog_5_method_11_code pp_129 0 cb_129_0 pp_129 = true := by decide +kernel
set_option maxRecDepth 100000 in
set_option maxHeartbeats 4000000 in
theorem pk_130 : pg_chk 3 false (some .boolean) prog_5_method_12_code pp_130 0 cb_130_0 pp_130 = true := by decide +kernel
set_option maxRecDepth 100000 in
set_option maxHeartbeats 4000000 in
theorem pk_131 : pg_chk 3 false (some .int) prog_5_method_13_code pp_131 0 cb_131_0 pp_131 = true := by decide +kernel
set_option maxRecDepth 100000 in
set_option maxHeartbeats 4000000 in
theorem pk_132 : pg_chk 2 true none prog_4_method_1_code pp_132 0 cb_132_0 pp_132 = true := by decide +kernel
set_option maxRecDepth 100000 in
set_option maxHeartbeats 4000000 in
theorem pk_133 : pg_chk 2 false none prog_4_method_2_code pp_133 0 cb_133_0 pp_133 = true := by decide +kernel
set_option maxRecDepth 100000 in
set_option maxHeartbeats 4000000 in
theorem pk_134 : pg_chk 2 false (some .int) prog_4_method_3_code pp_134 0 cb_134_0 pp_134 = true := by decide +kernel
set_option maxRecDepth 100000 in
set_option maxHeartbeats 4000000 in
theorem pk_135 : pg_chk 2 false (some .int) prog_4_method_4_code pp_135 0 cb_135_0 pp_135 = true := by decide +kernel
set_option maxRecDepth 100000 in
set_option maxHeartbeats 4000000 in
theorem pk_136 : pg_chk 2 false (some .int) prog_4_method_5_code pp_136 0 cb_136_0 pp_136 = true := by decide +kernel
set_option maxRecDepth 100000 in
set_option maxHeartbeats 4000000 in
theorem pk_137 : pg_chk 2 false none prog_4_method_6_code pp_137 0 cb_137_0 pp_137 = true := by decide +kernel
set_option maxRecDepth 100000 in
set_option maxHeartbeats 4000000 in
theorem pk_138 : pg_chk 2 false (some .int) prog_4_method_7_code pp_138 0 cb_138_0 pp_138 = true := by decide +kernel
set_option maxRecDepth 100000 in
set_option maxHeartbeats 4000000 in
theorem pk_139 : pg_chk 2 false (some .int) prog_4_method_8_code pp_139 0 cb_139_0 pp_139 = true := by decide +kernel
set_option maxRecDepth 100000 in
set_option maxHeartbeats 4000000 in
theorem pk_140 : pg_chk 2 false (some .int) prog_4_method_9_code pp_140 0 cb_140_0 pp_140 = true := by decide +kernel
set_option maxRecDepth 100000 in
set_option maxHeartbeats 4000000 in
theorem pk_141 : pg_chk 11 true none prog_1_method_1_code pp_141 0 cb_141_0 pp_141 = true := by decide +kernel
set_option maxRecDepth 100000 in
set_option maxHeartbeats 4000000 in
theorem pk_142 : pg_chk 11 false (some .int) prog_1_method_2_code pp_142 0 cb_142_0 pp_142 = true := by decide +kernel
set_option maxRecDepth 100000 in
set_option maxHeartbeats 4000000 in
theorem pk_143 : pg_chk 11 false (some .int) prog_1_method_3_code pp_143 0 cb_143_0 pp_143 = true := by decide +kernel
set_option maxRecDepth 100000 in
set_option maxHeartbeats 4000000 in
theorem pk_144 : pg_chk 11 false (some .int) prog_1_method_4_code pp_144 0 cb_144_0 pp_144 = true := by decide +kernel
set_option maxRecDepth 100000 in
set_option maxHeartbeats 4000000 in
theorem pk_145 : pg_chk 11 false (some .int) prog_1_method_5_code pp_145 0 cb_145_0 pp_145 = true := by decide +kernel
set_option maxRecDepth 100000 in
set_option maxHeartbeats 4000000 in
theorem pk_146 : pg_chk 11 false (some .int) prog_1_method_6_code pp_146 0 cb_146_0 pp_146 = true := by decide +kernel
set_option maxRecDepth 100000 in
set_option maxHeartbeats 4000000 in
theorem pk_147 : pg_chk 11 false (some .int) prog_1_method_7_code pp_147 0 cb_147_0 pp_147 = true := by decide +kernel
set_option maxRecDepth 100000 in
set_option maxHeartbeats 4000000 in
theorem pk_148 : pg_chk 11 false (some .int) prog_1_method_8_code pp_148 0 cb_148_0 pp_148 = true := by decide +kernel
set_option maxRecDepth 100000 in
set_option maxHeartbeats 4000000 in
theorem pk_149 : pg_chk 11 false (some .int) prog_1_method_9_code pp_149 0 cb_149_0 pp_149 = true := by decide +kernel
set_option maxRecDepth 100000 in
set_option maxHeartbeats 4000000 in
theorem pk_150 : pg_chk 11 false (some .int) prog_1_method_10_code pp_150 0 cb_150_0 pp_150 = true := by decide +kernel
set_option maxRecDepth 100000 in
set_option maxHeartbeats 4000000 in
theorem pk_151 : pg_chk 11 false (some .int) prog_1_method_11_code pp_151 0 cb_151_0 pp_151 = true := by decide +kernel
set_option maxRecDepth 100000 in
set_option maxHeartbeats 4000000 in
theorem pk_152 : pg_chk 11 false (some .int) prog_1_method_12_code pp_152 0 cb_152_0 pp_152 = true := by decide +kernel
set_option maxRecDepth 100000 in
set_option maxHeartbeats 4000000 in
theorem pk_153 : pg_chk 11 false (some .int) prog_1_method_13_code pp_153 0 cb_153_0 pp_153 = true := by decide +kernel
set_option maxRecDepth 100000 in
set_option maxHeartbeats 4000000 in
theorem pk_154 : pg_chk 11 false (some .int) prog_1_method_14_code pp_154 0 cb_154_0 pp_154 = true := by decide +kernel
set_option maxRecDepth 100000 in
set_option maxHeartbeats 4000000 in
theorem pk_155 : pg_chk 11 false (some .int) prog_1_method_15_code pp_155 0 cb_155_0 pp_155 = true := by decide +kernel
set_option maxRecDepth 100000 in
set_option maxHeartbeats 4000000 in
theorem pk_156 : pg_chk 11 false (some .int) prog_1_method_16_code pp_156 0 cb_156_0 pp_156 = true := by decide +kernel
set_option maxRecDepth 100000 in
set_option maxHeartbeats 4000000 in
theorem pk_157 : pg_chk 11 false (some .int) prog_1_method_17_code pp_157 0 cb_157_0 pp_157 = true := by decide +kernel
set_option maxRecDepth 100000 in
set_option maxHeartbeats 4000000 in
theorem pk_158 : pg_chk 11 false (some .int) prog_1_method_18_code pp_158 0 cb_158_0 pp_158 = true := by decide +kernel
set_option maxRecDepth 100000 in
set_option maxHeartbeats 4000000 in
theorem pk_159 : pg_chk 11 false (some .int) prog_1_method_19_code pp_159 0 cb_159_0 pp_159 = true := by decide +kernel
set_option maxRecDepth 100000 in
set_option maxHeartbeats 4000000 in
theorem pk_160 : pg_chk 11 false (some .int) prog_1_method_20_code pp_160 0 cb_160_0 pp_160 = true := by decide +kernel
set_option maxRecDepth 100000 in
set_option maxHeartbeats 4000000 in
theorem pk_161 : pg_chk 11 false (some .int) prog_1_method_21_code pp_161 0 cb_161_0 pp_161 = true := by decide +kernel
set_option maxRecDepth 100000 in
set_option maxHeartbeats 4000000 in
theorem pk_162 : pg_chk 11 false (some .int) prog_1_method_22_code pp_162 0 cb_162_0 pp_162 = true := by decide +kernel
set_option maxRecDepth 100000 in
set_option maxHeartbeats 4000000 in
theorem pk_163 : pg_chk 11 false (some .int) prog_1_method_23_code pp_163 0 cb_163_0 pp_163 = true := by decide +kernel
set_option maxRecDepth 100000 in
set_option maxHeartbeats 4000000 in
theorem pk_164 : pg_chk 11 false (some .int) prog_1_method_24_code pp_164 0 cb_164_0 pp_164 = true := by decide +kernel
set_option maxRecDepth 100000 in
set_option maxHeartbeats 4000000 in
theorem pk_165 : pg_chk 11 false (some .long) prog_1_method_25_code pp_165 0 cb_165_0 pp_165 = true := by decide +kernel
set_option maxRecDepth 100000 in
set_option maxHeartbeats 4000000 in
theorem pk_166 : pg_chk 11 false (some .int) prog_1_method_26_code pp_166 0 cb_166_0 pp_166 = true := by decide +kernel
set_option maxRecDepth 100000 in
set_option maxHeartbeats 4000000 in
theorem pk_167 : pg_chk 11 false (some .int) prog_1_method_27_code pp_167 0 cb_167_0 pp_167 = true := by decide +kernel
set_option maxRecDepth 100000 in
set_option maxHeartbeats 4000000 in
theorem pk_168 : pg_chk 11 false (some .int) prog_1_method_28_code pp_168 0 cb_168_0 pp_168 = true := by decide +kernel
set_option maxRecDepth 100000 in
set_option maxHeartbeats 4000000 in
theorem pk_169 : pg_chk 11 false (some .int) prog_1_method_29_code pp_169 0 cb_169_0 pp_169 = true := by decide +kernel
set_option maxRecDepth 100000 in
set_option maxHeartbeats 4000000 in
theorem pk_170 : pg_chk 11 false (some .long) prog_1_method_30_code pp_170 0 cb_170_0 pp_170 = true := by decide +kernel
set_option maxRecDepth 100000 in
set_option maxHeartbeats 4000000 in
theorem pk_171 : pg_chk 11 false (some .int) prog_1_method_31_code pp_171 0 cb_171_0 pp_171 = true := by decide +kernel
set_option maxRecDepth 100000 in
set_option maxHeartbeats 4000000 in
theorem pk_172 : pg_chk 11 false (some .int) prog_1_method_32_code pp_172 0 cb_172_0 pp_172 = true := by decide +kernel
set_option maxRecDepth 100000 in
set_option maxHeartbeats 4000000 in
theorem pk_173 : pg_chk 11 false (some .int) prog_1_method_33_code pp_173 0 cb_173_0 pp_173 = true := by decide +kernel
set_option maxRecDepth 100000 in
set_option maxHeartbeats 4000000 in
theorem pk_174 : pg_chk 11 false (some .int) prog_1_method_34_code pp_174 0 cb_174_0 pp_174 = true := by decide +kernel
set_option maxRecDepth 100000 in
set_option maxHeartbeats 4000000 in
theorem pk_175 : pg_chk 11 false (some .int) prog_1_method_35_code pp_175 0 cb_175_0 pp_175 = true := by decide +kernel
set_option maxRecDepth 100000 in
set_option maxHeartbeats 4000000 in
theorem pk_176 : pg_chk 11 false (some .int) prog_1_method_36_code pp_176 0 cb_176_0 pp_176 = true := by decide +kernel
set_option maxRecDepth 100000 in
set_option maxHeartbeats 4000000 in
theorem pk_177 : pg_chk 11 false (some .int) prog_1_method_37_code pp_177 0 cb_177_0 pp_177 = true := by decide +kernel
