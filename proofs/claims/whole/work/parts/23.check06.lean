set_option maxRecDepth 100000 in
theorem ik_162 : ip_chk im_162 = true := by decide +kernel
set_option maxRecDepth 100000 in
theorem ik_163 : ip_chk im_163 = true := by decide +kernel
set_option maxRecDepth 100000 in
theorem ik_164 : ip_chk im_164 = true := by decide +kernel
set_option maxRecDepth 100000 in
theorem ik_165 : ip_chk im_165 = true := by decide +kernel
set_option maxRecDepth 100000 in
theorem ik_166 : ip_chk im_166 = true := by decide +kernel
set_option maxRecDepth 100000 in
theorem ik_167_0 : ((im_167.2.2.2.2.2.2.2.drop 0).take 40).all (ip_che im_167) = true := by decide +kernel
set_option maxRecDepth 100000 in
theorem ik_167_40 : ((im_167.2.2.2.2.2.2.2.drop 40).take 40).all (ip_che im_167) = true := by decide +kernel
set_option maxRecDepth 100000 in
theorem ik_167_80 : (im_167.2.2.2.2.2.2.2.drop 80).all (ip_che im_167) = true := by decide +kernel
theorem ik_167 : ip_chk im_167 = true := ip_ch0 (ip_ch2 ik_167_0 (ip_ch2 ik_167_40 (ik_167_80)))
set_option maxRecDepth 100000 in
theorem ik_168 : ip_chk im_168 = true := by decide +kernel
set_option maxRecDepth 100000 in
theorem ik_169 : ip_chk im_169 = true := by decide +kernel
set_option maxRecDepth 100000 in
theorem ik_170 : ip_chk im_170 = true := by decide +kernel
set_option maxRecDepth 100000 in
theorem ik_171_0 : ((im_171.2.2.2.2.2.2.2.drop 0).take 40).all (ip_che im_171) = true := by decide +kernel
set_option maxRecDepth 100000 in
theorem ik_171_40 : ((im_171.2.2.2.2.2.2.2.drop 40).take 40).all (ip_che im_171) = true := by decide +kernel
set_option maxRecDepth 100000 in
theorem ik_171_80 : ((im_171.2.2.2.2.2.2.2.drop 80).take 40).all (ip_che im_171) = true := by decide +kernel
set_option maxRecDepth 100000 in
theorem ik_171_120 : (im_171.2.2.2.2.2.2.2.drop 120).all (ip_che im_171) = true := by decide +kernel
theorem ik_171 : ip_chk im_171 = true := ip_ch0 (ip_ch2 ik_171_0 (ip_ch2 ik_171_40 (ip_ch2 ik_171_80 (ik_171_120))))
set_option maxRecDepth 100000 in
theorem ik_172 : ip_chk im_172 = true := by decide +kernel
set_option maxRecDepth 100000 in
theorem ik_173 : ip_chk im_173 = true := by decide +kernel
set_option maxRecDepth 100000 in
theorem ik_174 : ip_chk im_174 = true := by decide +kernel
set_option maxRecDepth 100000 in
theorem ik_175 : ip_chk im_175 = true := by decide +kernel
set_option maxRecDepth 100000 in
theorem ik_176_0 : ((im_176.2.2.2.2.2.2.2.drop 0).take 40).all (ip_che im_176) = true := by decide +kernel
set_option maxRecDepth 100000 in
theorem ik_176_40 : (im_176.2.2.2.2.2.2.2.drop 40).all (ip_che im_176) = true := by decide +kernel
theorem ik_176 : ip_chk im_176 = true := ip_ch0 (ip_ch2 ik_176_0 (ik_176_40))
set_option maxRecDepth 100000 in
theorem ik_177 : ip_chk im_177 = true := by decide +kernel
set_option maxRecDepth 100000 in
theorem ik_178_0 : ((im_178.2.2.2.2.2.2.2.drop 0).take 40).all (ip_che im_178) = true := by decide +kernel
set_option maxRecDepth 100000 in
theorem ik_178_40 : ((im_178.2.2.2.2.2.2.2.drop 40).take 40).all (ip_che im_178) = true := by decide +kernel
set_option maxRecDepth 100000 in
theorem ik_178_80 : ((im_178.2.2.2.2.2.2.2.drop 80).take 40).all (ip_che im_178) = true := by decide +kernel
set_option maxRecDepth 100000 in
theorem ik_178_120 : ((im_178.2.2.2.2.2.2.2.drop 120).take 40).all (ip_che im_178) = true := by decide +kernel
set_option maxRecDepth 100000 in
theorem ik_178_160 : (im_178.2.2.2.2.2.2.2.drop 160).all (ip_che im_178) = true := by decide +kernel
theorem ik_178 : ip_chk im_178 = true := ip_ch0 (ip_ch2 ik_178_0 (ip_ch2 ik_178_40 (ip_ch2 ik_178_80 (ip_ch2 ik_178_120 (ik_178_160)))))
set_option maxRecDepth 100000 in
theorem ik_179 : ip_chk im_179 = true := by decide +kernel
set_option maxRecDepth 100000 in
theorem ik_180 : ip_chk im_180 = true := by decide +kernel
set_option maxRecDepth 100000 in
theorem ik_181 : ip_chk im_181 = true := by decide +kernel
set_option maxRecDepth 100000 in
theorem ik_182 : ip_chk im_182 = true := by decide +kernel
set_option maxRecDepth 100000 in
theorem ik_183 : ip_chk im_183 = true := by decide +kernel
set_option maxRecDepth 100000 in
theorem ik_184_0 : ((im_184.2.2.2.2.2.2.2.drop 0).take 40).all (ip_che im_184) = true := by decide +kernel
set_option maxRecDepth 100000 in
theorem ik_184_40 : ((im_184.2.2.2.2.2.2.2.drop 40).take 40).all (ip_che im_184) = true := by decide +kernel
set_option maxRecDepth 100000 in
theorem ik_184_80 : ((im_184.2.2.2.2.2.2.2.drop 80).take 40).all (ip_che im_184) = true := by decide +kernel
set_option maxRecDepth 100000 in
theorem ik_184_120 : ((im_184.2.2.2.2.2.2.2.drop 120).take 40).all (ip_che im_184) = true := by decide +kernel
set_option maxRecDepth 100000 in
theorem ik_184_160 : ((im_184.2.2.2.2.2.2.2.drop 160).take 40).all (ip_che im_184) = true := by decide +kernel
set_option maxRecDepth 100000 in
theorem ik_184_200 : (im_184.2.2.2.2.2.2.2.drop 200).all (ip_che im_184) = true := by decide +kernel
theorem ik_184 : ip_chk im_184 = true := ip_ch0 (ip_ch2 ik_184_0 (ip_ch2 ik_184_40 (ip_ch2 ik_184_80 (ip_ch2 ik_184_120 (ip_ch2 ik_184_160 (ik_184_200))))))
