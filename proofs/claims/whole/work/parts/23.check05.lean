set_option maxRecDepth 100000 in
theorem ik_127 : ip_chk im_127 = true := by decide +kernel
set_option maxRecDepth 100000 in
theorem ik_128 : ip_chk im_128 = true := by decide +kernel
set_option maxRecDepth 100000 in
theorem ik_129 : ip_chk im_129 = true := by decide +kernel
set_option maxRecDepth 100000 in
theorem ik_130 : ip_chk im_130 = true := by decide +kernel
set_option maxRecDepth 100000 in
theorem ik_131 : ip_chk im_131 = true := by decide +kernel
set_option maxRecDepth 100000 in
theorem ik_132 : ip_chk im_132 = true := by decide +kernel
set_option maxRecDepth 100000 in
theorem ik_133 : ip_chk im_133 = true := by decide +kernel
set_option maxRecDepth 100000 in
theorem ik_134 : ip_chk im_134 = true := by decide +kernel
set_option maxRecDepth 100000 in
theorem ik_135 : ip_chk im_135 = true := by decide +kernel
set_option maxRecDepth 100000 in
theorem ik_136 : ip_chk im_136 = true := by decide +kernel
set_option maxRecDepth 100000 in
theorem ik_137_0 : ((im_137.2.2.2.2.2.2.2.drop 0).take 40).all (ip_che im_137) = true := by decide +kernel
set_option maxRecDepth 100000 in
theorem ik_137_40 : (im_137.2.2.2.2.2.2.2.drop 40).all (ip_che im_137) = true := by decide +kernel
theorem ik_137 : ip_chk im_137 = true := ip_ch0 (ip_ch2 ik_137_0 (ik_137_40))
set_option maxRecDepth 100000 in
theorem ik_138 : ip_chk im_138 = true := by decide +kernel
set_option maxRecDepth 100000 in
theorem ik_139 : ip_chk im_139 = true := by decide +kernel
set_option maxRecDepth 100000 in
theorem ik_140 : ip_chk im_140 = true := by decide +kernel
set_option maxRecDepth 100000 in
theorem ik_141 : ip_chk im_141 = true := by decide +kernel
set_option maxRecDepth 100000 in
theorem ik_142 : ip_chk im_142 = true := by decide +kernel
set_option maxRecDepth 100000 in
theorem ik_143 : ip_chk im_143 = true := by decide +kernel
set_option maxRecDepth 100000 in
theorem ik_144 : ip_chk im_144 = true := by decide +kernel
set_option maxRecDepth 100000 in
theorem ik_145 : ip_chk im_145 = true := by decide +kernel
set_option maxRecDepth 100000 in
theorem ik_146 : ip_chk im_146 = true := by decide +kernel
set_option maxRecDepth 100000 in
theorem ik_147 : ip_chk im_147 = true := by decide +kernel
set_option maxRecDepth 100000 in
theorem ik_148 : ip_chk im_148 = true := by decide +kernel
set_option maxRecDepth 100000 in
theorem ik_149 : ip_chk im_149 = true := by decide +kernel
set_option maxRecDepth 100000 in
theorem ik_150 : ip_chk im_150 = true := by decide +kernel
set_option maxRecDepth 100000 in
theorem ik_151_0 : ((im_151.2.2.2.2.2.2.2.drop 0).take 40).all (ip_che im_151) = true := by decide +kernel
set_option maxRecDepth 100000 in
theorem ik_151_40 : (im_151.2.2.2.2.2.2.2.drop 40).all (ip_che im_151) = true := by decide +kernel
theorem ik_151 : ip_chk im_151 = true := ip_ch0 (ip_ch2 ik_151_0 (ik_151_40))
set_option maxRecDepth 100000 in
theorem ik_152 : ip_chk im_152 = true := by decide +kernel
set_option maxRecDepth 100000 in
theorem ik_153_0 : ((im_153.2.2.2.2.2.2.2.drop 0).take 40).all (ip_che im_153) = true := by decide +kernel
set_option maxRecDepth 100000 in
theorem ik_153_40 : (im_153.2.2.2.2.2.2.2.drop 40).all (ip_che im_153) = true := by decide +kernel
theorem ik_153 : ip_chk im_153 = true := ip_ch0 (ip_ch2 ik_153_0 (ik_153_40))
set_option maxRecDepth 100000 in
theorem ik_154 : ip_chk im_154 = true := by decide +kernel
set_option maxRecDepth 100000 in
theorem ik_155 : ip_chk im_155 = true := by decide +kernel
set_option maxRecDepth 100000 in
theorem ik_156 : ip_chk im_156 = true := by decide +kernel
set_option maxRecDepth 100000 in
theorem ik_157 : ip_chk im_157 = true := by decide +kernel
set_option maxRecDepth 100000 in
theorem ik_158 : ip_chk im_158 = true := by decide +kernel
set_option maxRecDepth 100000 in
theorem ik_159 : ip_chk im_159 = true := by decide +kernel
set_option maxRecDepth 100000 in
theorem ik_160 : ip_chk im_160 = true := by decide +kernel
set_option maxRecDepth 100000 in
theorem ik_161 : ip_chk im_161 = true := by decide +kernel
