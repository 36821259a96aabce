/-! the small code of methods 79 to 180 is the machine's -/
set_option maxRecDepth 100000 in
theorem ck_79 : m_ckS lkf_10 (p_TT 79) (p_INI 79) false (m_tgb s_79) p_rab (fun _ => false) (p_B 79) s_79 = true := by decide +kernel
set_option maxRecDepth 100000 in
theorem ck_80 : m_ckS lkf_10 (p_TT 80) (p_INI 80) false (m_tgb s_80) p_rab (fun _ => false) (p_B 80) s_80 = true := by decide +kernel
set_option maxRecDepth 100000 in
theorem ck_81 : m_ckS lkf_10 (p_TT 81) (p_INI 81) false (m_tgb s_81) p_rab (fun _ => false) (p_B 81) s_81 = true := by decide +kernel
set_option maxRecDepth 100000 in
theorem ck_82 : m_ckS lkf_10 (p_TT 82) (p_INI 82) false (m_tgb s_82) p_rab (fun _ => false) (p_B 82) s_82 = true := by decide +kernel
set_option maxRecDepth 100000 in
theorem ck_83 : m_ckS lkf_10 (p_TT 83) (p_INI 83) false (m_tgb s_83) p_rab (fun _ => false) (p_B 83) s_83 = true := by decide +kernel
set_option maxRecDepth 100000 in
theorem ck_84 : m_ckS lkf_10 (p_TT 84) (p_INI 84) false (m_tgb s_84) p_rab (fun _ => false) (p_B 84) s_84 = true := by decide +kernel
set_option maxRecDepth 100000 in
theorem ck_85 : m_ckS lkf_10 (p_TT 85) (p_INI 85) false (m_tgb s_85) p_rab (fun _ => false) (p_B 85) s_85 = true := by decide +kernel
set_option maxRecDepth 100000 in
theorem ck_86 : m_ckS lkf_10 (p_TT 86) (p_INI 86) false (m_tgb s_86) p_rab (fun _ => false) (p_B 86) s_86 = true := by decide +kernel
set_option maxRecDepth 100000 in
theorem ck_87 : m_ckS lkf_10 (p_TT 87) (p_INI 87) false (m_tgb s_87) p_rab (fun _ => false) (p_B 87) s_87 = true := by decide +kernel
set_option maxRecDepth 100000 in
theorem ck_88 : m_ckS lkf_10 (p_TT 88) (p_INI 88) false (m_tgb s_88) p_rab (fun _ => false) (p_B 88) s_88 = true := by decide +kernel
set_option maxRecDepth 100000 in
theorem ck_89 : m_ckS lkf_10 (p_TT 89) (p_INI 89) false (m_tgb s_89) p_rab (fun _ => false) (p_B 89) s_89 = true := by decide +kernel
set_option maxRecDepth 100000 in
theorem ck_90 : m_ckS lkf_10 (p_TT 90) (p_INI 90) false (m_tgb s_90) p_rab (fun _ => false) (p_B 90) s_90 = true := by decide +kernel
set_option maxRecDepth 100000 in
theorem ck_91 : m_ckS lkf_10 (p_TT 91) (p_INI 91) false (m_tgb s_91) p_rab (fun _ => false) (p_B 91) s_91 = true := by decide +kernel
set_option maxRecDepth 100000 in
theorem ck_92 : m_ckS lkf_10 (p_TT 92) (p_INI 92) false (m_tgb s_92) p_rab (fun _ => false) (p_B 92) s_92 = true := by decide +kernel
set_option maxRecDepth 100000 in
theorem ck_93 : m_ckS lkf_10 (p_TT 93) (p_INI 93) false (m_tgb s_93) p_rab (fun _ => false) (p_B 93) s_93 = true := by decide +kernel
set_option maxRecDepth 100000 in
theorem ck_94 : m_ckS lkf_10 (p_TT 94) (p_INI 94) false (m_tgb s_94) p_rab (fun _ => false) (p_B 94) s_94 = true := by decide +kernel
set_option maxRecDepth 100000 in
theorem ck_95 : m_ckS lkf_10 (p_TT 95) (p_INI 95) false (m_tgb s_95) p_rab (fun _ => false) (p_B 95) s_95 = true := by decide +kernel
set_option maxRecDepth 100000 in
theorem ck_96 : m_ckS lkf_10 (p_TT 96) (p_INI 96) false (m_tgb s_96) p_rab (fun _ => false) (p_B 96) s_96 = true := by decide +kernel
set_option maxRecDepth 100000 in
theorem ck_97 : m_ckS lkf_10 (p_TT 97) (p_INI 97) false (m_tgb s_97) p_rab (fun _ => false) (p_B 97) s_97 = true := by decide +kernel
set_option maxRecDepth 100000 in
theorem ck_98 : m_ckS lkf_10 (p_TT 98) (p_INI 98) false (m_tgb s_98) p_rab (fun _ => false) (p_B 98) s_98 = true := by decide +kernel
set_option maxRecDepth 100000 in
theorem ck_99 : m_ckS lkf_10 (p_TT 99) (p_INI 99) false (m_tgb s_99) p_rab (fun _ => false) (p_B 99) s_99 = true := by decide +kernel
set_option maxRecDepth 100000 in
theorem ck_100 : m_ckS lkf_10 (p_TT 100) (p_INI 100) false (m_tgb s_100) p_rab (fun _ => false) (p_B 100) s_100 = true := by decide +kernel
set_option maxRecDepth 100000 in
theorem ck_101 : m_ckS lkf_10 (p_TT 101) (p_INI 101) false (m_tgb s_101) p_rab (fun _ => false) (p_B 101) s_101 = true := by decide +kernel
set_option maxRecDepth 100000 in
theorem ck_102 : m_ckS lkf_10 (p_TT 102) (p_INI 102) false (m_tgb s_102) p_rab (fun _ => false) (p_B 102) s_102 = true := by decide +kernel
set_option maxRecDepth 100000 in
theorem ck_103 : m_ckS lkf_10 (p_TT 103) (p_INI 103) false (m_tgb s_103) p_rab (fun _ => false) (p_B 103) s_103 = true := by decide +kernel
set_option maxRecDepth 100000 in
theorem ck_104 : m_ckS lkf_11 (p_TT 104) (p_INI 104) false (m_tgb s_104) p_rab (fun _ => false) (p_B 104) s_104 = true := by decide +kernel
set_option maxRecDepth 100000 in
theorem ck_105 : m_ckS lkf_11 (p_TT 105) (p_INI 105) false (m_tgb s_105) p_rab (fun _ => false) (p_B 105) s_105 = true := by decide +kernel
set_option maxRecDepth 100000 in
theorem ck_106 : m_ckS lkf_11 (p_TT 106) (p_INI 106) false (m_tgb s_106) p_rab (fun _ => false) (p_B 106) s_106 = true := by decide +kernel
set_option maxRecDepth 100000 in
theorem ck_107 : m_ckS lkf_11 (p_TT 107) (p_INI 107) false (m_tgb s_107) p_rab (fun _ => false) (p_B 107) s_107 = true := by decide +kernel
set_option maxRecDepth 100000 in
theorem ck_108 : m_ckS lkf_11 (p_TT 108) (p_INI 108) false (m_tgb s_108) p_rab (fun _ => false) (p_B 108) s_108 = true := by decide +kernel
set_option maxRecDepth 100000 in
theorem ck_109 : m_ckS lkf_11 (p_TT 109) (p_INI 109) false (m_tgb s_109) p_rab (fun _ => false) (p_B 109) s_109 = true := by decide +kernel
set_option maxRecDepth 100000 in
theorem ck_110 : m_ckS lkf_11 (p_TT 110) (p_INI 110) false (m_tgb s_110) p_rab (fun _ => false) (p_B 110) s_110 = true := by decide +kernel
set_option maxRecDepth 100000 in
theorem ck_111 : m_ckS lkf_11 (p_TT 111) (p_INI 111) false (m_tgb s_111) p_rab (fun _ => false) (p_B 111) s_111 = true := by decide +kernel
set_option maxRecDepth 100000 in
theorem ck_112 : m_ckS lkf_11 (p_TT 112) (p_INI 112) false (m_tgb s_112) p_rab (fun _ => false) (p_B 112) s_112 = true := by decide +kernel
set_option maxRecDepth 100000 in
theorem ck_113 : m_ckS lkf_11 (p_TT 113) (p_INI 113) false (m_tgb s_113) p_rab (fun _ => false) (p_B 113) s_113 = true := by decide +kernel
set_option maxRecDepth 100000 in
theorem ck_114 : m_ckS lkf_11 (p_TT 114) (p_INI 114) false (m_tgb s_114) p_rab (fun _ => false) (p_B 114) s_114 = true := by decide +kernel
set_option maxRecDepth 100000 in
theorem ck_115 : m_ckS lkf_11 (p_TT 115) (p_INI 115) false (m_tgb s_115) p_rab (fun _ => false) (p_B 115) s_115 = true := by decide +kernel
set_option maxRecDepth 100000 in
theorem ck_116 : m_ckS lkf_11 (p_TT 116) (p_INI 116) false (m_tgb s_116) p_rab (fun _ => false) (p_B 116) s_116 = true := by decide +kernel
set_option maxRecDepth 100000 in
theorem ck_117 : m_ckS lkf_11 (p_TT 117) (p_INI 117) false (m_tgb s_117) p_rab (fun _ => false) (p_B 117) s_117 = true := by decide +kernel
set_option maxRecDepth 100000 in
theorem ck_118 : m_ckS lkf_11 (p_TT 118) (p_INI 118) false (m_tgb s_118) p_rab (fun _ => false) (p_B 118) s_118 = true := by decide +kernel
set_option maxRecDepth 100000 in
theorem ck_119 : m_ckS lkf_11 (p_TT 119) (p_INI 119) false (m_tgb s_119) p_rab (fun _ => false) (p_B 119) s_119 = true := by decide +kernel
set_option maxRecDepth 100000 in
theorem ck_120 : m_ckS lkf_11 (p_TT 120) (p_INI 120) false (m_tgb s_120) p_rab (fun _ => false) (p_B 120) s_120 = true := by decide +kernel
set_option maxRecDepth 100000 in
theorem ck_121 : m_ckS lkf_11 (p_TT 121) (p_INI 121) false (m_tgb s_121) p_rab (fun _ => false) (p_B 121) s_121 = true := by decide +kernel
set_option maxRecDepth 100000 in
theorem ck_122 : m_ckS lkf_11 (p_TT 122) (p_INI 122) false (m_tgb s_122) p_rab (fun _ => false) (p_B 122) s_122 = true := by decide +kernel
set_option maxRecDepth 100000 in
theorem ck_123 : m_ckS lkf_11 (p_TT 123) (p_INI 123) false (m_tgb s_123) p_rab (fun _ => false) (p_B 123) s_123 = true := by decide +kernel
set_option maxRecDepth 100000 in
theorem ck_124 : m_ckS lkf_11 (p_TT 124) (p_INI 124) false (m_tgb s_124) p_rab (fun _ => false) (p_B 124) s_124 = true := by decide +kernel
set_option maxRecDepth 100000 in
theorem ck_125 : m_ckS lkf_11 (p_TT 125) (p_INI 125) false (m_tgb s_125) p_rab (fun _ => false) (p_B 125) s_125 = true := by decide +kernel
set_option maxRecDepth 100000 in
theorem ck_126 : m_ckS lkf_11 (p_TT 126) (p_INI 126) false (m_tgb s_126) p_rab (fun _ => false) (p_B 126) s_126 = true := by decide +kernel
set_option maxRecDepth 100000 in
theorem ck_127 : m_ckS lkf_11 (p_TT 127) (p_INI 127) false (m_tgb s_127) p_rab (fun _ => false) (p_B 127) s_127 = true := by decide +kernel
set_option maxRecDepth 100000 in
theorem ck_128 : m_ckS lkf_11 (p_TT 128) (p_INI 128) false (m_tgb s_128) p_rab (fun _ => false) (p_B 128) s_128 = true := by decide +kernel
set_option maxRecDepth 100000 in
theorem ck_129 : m_ckS lkf_11 (p_TT 129) (p_INI 129) false (m_tgb s_129) p_rab (fun _ => false) (p_B 129) s_129 = true := by decide +kernel
set_option maxRecDepth 100000 in
theorem ck_130 : m_ckS lkf_11 (p_TT 130) (p_INI 130) false (m_tgb s_130) p_rab (fun _ => false) (p_B 130) s_130 = true := by decide +kernel
set_option maxRecDepth 100000 in
theorem ck_131 : m_ckS lkf_11 (p_TT 131) (p_INI 131) false (m_tgb s_131) p_rab (fun _ => false) (p_B 131) s_131 = true := by decide +kernel
set_option maxRecDepth 100000 in
theorem ck_132 : m_ckS lkf_11 (p_TT 132) (p_INI 132) false (m_tgb s_132) p_rab (fun _ => false) (p_B 132) s_132 = true := by decide +kernel
set_option maxRecDepth 100000 in
theorem ck_133 : m_ckS lkf_11 (p_TT 133) (p_INI 133) false (m_tgb s_133) p_rab (fun _ => false) (p_B 133) s_133 = true := by decide +kernel
set_option maxRecDepth 100000 in
theorem ck_134 : m_ckS lkf_11 (p_TT 134) (p_INI 134) false (m_tgb s_134) p_rab (fun _ => false) (p_B 134) s_134 = true := by decide +kernel
set_option maxRecDepth 100000 in
theorem ck_135 : m_ckS lkf_11 (p_TT 135) (p_INI 135) false (m_tgb s_135) p_rab (fun _ => false) (p_B 135) s_135 = true := by decide +kernel
set_option maxRecDepth 100000 in
theorem ck_136 : m_ckS lkf_11 (p_TT 136) (p_INI 136) false (m_tgb s_136) p_rab (fun _ => false) (p_B 136) s_136 = true := by decide +kernel
set_option maxRecDepth 100000 in
theorem ck_137 : m_ckS lkf_11 (p_TT 137) (p_INI 137) false (m_tgb s_137) p_rab (fun _ => false) (p_B 137) s_137 = true := by decide +kernel
set_option maxRecDepth 100000 in
theorem ck_138 : m_ckS lkf_11 (p_TT 138) (p_INI 138) false (m_tgb s_138) p_rab (fun _ => false) (p_B 138) s_138 = true := by decide +kernel
set_option maxRecDepth 100000 in
theorem ck_139 : m_ckS lkf_11 (p_TT 139) (p_INI 139) false (m_tgb s_139) p_rab (fun _ => false) (p_B 139) s_139 = true := by decide +kernel
set_option maxRecDepth 100000 in
theorem ck_140 : m_ckS lkf_11 (p_TT 140) (p_INI 140) false (m_tgb s_140) p_rab (fun _ => false) (p_B 140) s_140 = true := by decide +kernel
set_option maxRecDepth 100000 in
theorem ck_141 : m_ckS lkf_11 (p_TT 141) (p_INI 141) false (m_tgb s_141) p_rab (fun _ => false) (p_B 141) s_141 = true := by decide +kernel
set_option maxRecDepth 100000 in
theorem ck_142 : m_ckS lkf_11 (p_TT 142) (p_INI 142) false (m_tgb s_142) p_rab (fun _ => false) (p_B 142) s_142 = true := by decide +kernel
set_option maxRecDepth 100000 in
theorem ck_143 : m_ckS lkf_11 (p_TT 143) (p_INI 143) false (m_tgb s_143) p_rab (fun _ => false) (p_B 143) s_143 = true := by decide +kernel
set_option maxRecDepth 100000 in
theorem ck_144 : m_ckS lkf_11 (p_TT 144) (p_INI 144) false (m_tgb s_144) p_rab (fun _ => false) (p_B 144) s_144 = true := by decide +kernel
set_option maxRecDepth 100000 in
theorem ck_145 : m_ckS lkf_11 (p_TT 145) (p_INI 145) false (m_tgb s_145) p_rab (fun _ => false) (p_B 145) s_145 = true := by decide +kernel
set_option maxRecDepth 100000 in
theorem ck_146 : m_ckS lkf_11 (p_TT 146) (p_INI 146) false (m_tgb s_146) p_rab (fun _ => false) (p_B 146) s_146 = true := by decide +kernel
set_option maxRecDepth 100000 in
theorem ck_147 : m_ckS lkf_11 (p_TT 147) (p_INI 147) false (m_tgb s_147) p_rab (fun _ => false) (p_B 147) s_147 = true := by decide +kernel
set_option maxRecDepth 100000 in
theorem ck_148 : m_ckS lkf_11 (p_TT 148) (p_INI 148) false (m_tgb s_148) p_rab (fun _ => false) (p_B 148) s_148 = true := by decide +kernel
set_option maxRecDepth 100000 in
theorem ck_149 : m_ckS lkf_11 (p_TT 149) (p_INI 149) false (m_tgb s_149) p_rab (fun _ => false) (p_B 149) s_149 = true := by decide +kernel
set_option maxRecDepth 100000 in
theorem ck_150 : m_ckS lkf_11 (p_TT 150) (p_INI 150) false (m_tgb s_150) p_rab (fun _ => false) (p_B 150) s_150 = true := by decide +kernel
set_option maxRecDepth 100000 in
theorem ck_151 : m_ckS lkf_11 (p_TT 151) (p_INI 151) false (m_tgb s_151) p_rab (fun _ => false) (p_B 151) s_151 = true := by decide +kernel
set_option maxRecDepth 100000 in
theorem ck_152 : m_ckS lkf_12 (p_TT 152) (p_INI 152) false (m_tgb s_152) p_rab (fun _ => false) (p_B 152) s_152 = true := by decide +kernel
set_option maxRecDepth 100000 in
theorem ck_153 : m_ckS lkf_12 (p_TT 153) (p_INI 153) false (m_tgb s_153) p_rab (fun _ => false) (p_B 153) s_153 = true := by decide +kernel
set_option maxRecDepth 100000 in
theorem ck_154 : m_ckS lkf_12 (p_TT 154) (p_INI 154) false (m_tgb s_154) p_rab (fun _ => false) (p_B 154) s_154 = true := by decide +kernel
set_option maxRecDepth 100000 in
theorem ck_155 : m_ckS lkf_12 (p_TT 155) (p_INI 155) false (m_tgb s_155) p_rab (fun _ => false) (p_B 155) s_155 = true := by decide +kernel
set_option maxRecDepth 100000 in
theorem ck_156 : m_ckS lkf_12 (p_TT 156) (p_INI 156) false (m_tgb s_156) p_rab (fun _ => false) (p_B 156) s_156 = true := by decide +kernel
set_option maxRecDepth 100000 in
theorem ck_157 : m_ckS lkf_12 (p_TT 157) (p_INI 157) false (m_tgb s_157) p_rab (fun _ => false) (p_B 157) s_157 = true := by decide +kernel
set_option maxRecDepth 100000 in
theorem ck_158 : m_ckS lkf_12 (p_TT 158) (p_INI 158) false (m_tgb s_158) p_rab (fun _ => false) (p_B 158) s_158 = true := by decide +kernel
set_option maxRecDepth 100000 in
theorem ck_159 : m_ckS lkf_12 (p_TT 159) (p_INI 159) false (m_tgb s_159) p_rab (fun _ => false) (p_B 159) s_159 = true := by decide +kernel
set_option maxRecDepth 100000 in
theorem ck_160 : m_ckS lkf_12 (p_TT 160) (p_INI 160) false (m_tgb s_160) p_rab (fun _ => false) (p_B 160) s_160 = true := by decide +kernel
set_option maxRecDepth 100000 in
theorem ck_161 : m_ckS lkf_12 (p_TT 161) (p_INI 161) false (m_tgb s_161) p_rab (fun _ => false) (p_B 161) s_161 = true := by decide +kernel
set_option maxRecDepth 100000 in
theorem ck_162 : m_ckS lkf_12 (p_TT 162) (p_INI 162) false (m_tgb s_162) p_rab (fun _ => false) (p_B 162) s_162 = true := by decide +kernel
set_option maxRecDepth 100000 in
theorem ck_163 : m_ckS lkf_12 (p_TT 163) (p_INI 163) false (m_tgb s_163) p_rab (fun _ => false) (p_B 163) s_163 = true := by decide +kernel
set_option maxRecDepth 100000 in
theorem ck_164 : m_ckS lkf_12 (p_TT 164) (p_INI 164) false (m_tgb s_164) p_rab (fun _ => false) (p_B 164) s_164 = true := by decide +kernel
set_option maxRecDepth 100000 in
theorem ck_165 : m_ckS lkf_12 (p_TT 165) (p_INI 165) false (m_tgb s_165) p_rab (fun _ => false) (p_B 165) s_165 = true := by decide +kernel
set_option maxRecDepth 100000 in
theorem ck_166 : m_ckS lkf_12 (p_TT 166) (p_INI 166) false (m_tgb s_166) p_rab (fun _ => false) (p_B 166) s_166 = true := by decide +kernel
set_option maxRecDepth 100000 in
theorem ck_167 : m_ckS lkf_12 (p_TT 167) (p_INI 167) false (m_tgb s_167) p_rab (fun _ => false) (p_B 167) s_167 = true := by decide +kernel
set_option maxRecDepth 100000 in
theorem ck_168 : m_ckS lkf_12 (p_TT 168) (p_INI 168) false (m_tgb s_168) p_rab (fun _ => false) (p_B 168) s_168 = true := by decide +kernel
set_option maxRecDepth 100000 in
theorem ck_169 : m_ckS lkf_12 (p_TT 169) (p_INI 169) false (m_tgb s_169) p_rab (fun _ => false) (p_B 169) s_169 = true := by decide +kernel
set_option maxRecDepth 100000 in
theorem ck_170 : m_ckS lkf_12 (p_TT 170) (p_INI 170) false (m_tgb s_170) p_rab (fun _ => false) (p_B 170) s_170 = true := by decide +kernel
set_option maxRecDepth 100000 in
theorem ck_171 : m_ckS lkf_12 (p_TT 171) (p_INI 171) false (m_tgb s_171) p_rab (fun _ => false) (p_B 171) s_171 = true := by decide +kernel
set_option maxRecDepth 100000 in
theorem ck_172 : m_ckS lkf_12 (p_TT 172) (p_INI 172) false (m_tgb s_172) p_rab (fun _ => false) (p_B 172) s_172 = true := by decide +kernel
set_option maxRecDepth 100000 in
theorem ck_173 : m_ckS lkf_12 (p_TT 173) (p_INI 173) false (m_tgb s_173) p_rab (fun _ => false) (p_B 173) s_173 = true := by decide +kernel
set_option maxRecDepth 100000 in
theorem ck_174 : m_ckS lkf_12 (p_TT 174) (p_INI 174) false (m_tgb s_174) p_rab (fun _ => false) (p_B 174) s_174 = true := by decide +kernel
set_option maxRecDepth 100000 in
theorem ck_175 : m_ckS lkf_12 (p_TT 175) (p_INI 175) false (m_tgb s_175) p_rab (fun _ => false) (p_B 175) s_175 = true := by decide +kernel
set_option maxRecDepth 100000 in
theorem ck_176 : m_ckS lkf_12 (p_TT 176) (p_INI 176) false (m_tgb s_176) p_rab (fun _ => false) (p_B 176) s_176 = true := by decide +kernel
set_option maxRecDepth 100000 in
theorem ck_177 : m_ckS lkf_12 (p_TT 177) (p_INI 177) false (m_tgb s_177) p_rab (fun _ => false) (p_B 177) s_177 = true := by decide +kernel
set_option maxRecDepth 100000 in
theorem ck_178 : m_ckS lkf_12 (p_TT 178) (p_INI 178) false (m_tgb s_178) p_rab (fun _ => false) (p_B 178) s_178 = true := by decide +kernel
set_option maxRecDepth 100000 in
theorem ck_179 : m_ckS lkf_12 (p_TT 179) (p_INI 179) false (m_tgb s_179) p_rab (fun _ => false) (p_B 179) s_179 = true := by decide +kernel
set_option maxRecDepth 100000 in
theorem ck_180 : m_ckS lkf_12 (p_TT 180) (p_INI 180) false (m_tgb s_180) p_rab (fun _ => false) (p_B 180) s_180 = true := by decide +kernel
