set_option maxRecDepth 100000 in
theorem ik_185 : ip_chk im_185 = true := by decide +kernel
set_option maxRecDepth 100000 in
theorem ik_186 : ip_chk im_186 = true := by decide +kernel
set_option maxRecDepth 100000 in
theorem ik_187_0 : ((im_187.2.2.2.2.2.2.2.drop 0).take 40).all (ip_che im_187) = true := by decide +kernel
set_option maxRecDepth 100000 in
theorem ik_187_40 : ((im_187.2.2.2.2.2.2.2.drop 40).take 40).all (ip_che im_187) = true := by decide +kernel
set_option maxRecDepth 100000 in
theorem ik_187_80 : (im_187.2.2.2.2.2.2.2.drop 80).all (ip_che im_187) = true := by decide +kernel
theorem ik_187 : ip_chk im_187 = true := ip_ch0 (ip_ch2 ik_187_0 (ip_ch2 ik_187_40 (ik_187_80)))
set_option maxRecDepth 100000 in
theorem ik_188_0 : ((im_188.2.2.2.2.2.2.2.drop 0).take 40).all (ip_che im_188) = true := by decide +kernel
set_option maxRecDepth 100000 in
theorem ik_188_40 : ((im_188.2.2.2.2.2.2.2.drop 40).take 40).all (ip_che im_188) = true := by decide +kernel
set_option maxRecDepth 100000 in
theorem ik_188_80 : ((im_188.2.2.2.2.2.2.2.drop 80).take 40).all (ip_che im_188) = true := by decide +kernel
set_option maxRecDepth 100000 in
theorem ik_188_120 : ((im_188.2.2.2.2.2.2.2.drop 120).take 40).all (ip_che im_188) = true := by decide +kernel
set_option maxRecDepth 100000 in
theorem ik_188_160 : (im_188.2.2.2.2.2.2.2.drop 160).all (ip_che im_188) = true := by decide +kernel
theorem ik_188 : ip_chk im_188 = true := ip_ch0 (ip_ch2 ik_188_0 (ip_ch2 ik_188_40 (ip_ch2 ik_188_80 (ip_ch2 ik_188_120 (ik_188_160)))))
set_option maxRecDepth 100000 in
theorem ik_189_0 : ((im_189.2.2.2.2.2.2.2.drop 0).take 40).all (ip_che im_189) = true := by decide +kernel
set_option maxRecDepth 100000 in
theorem ik_189_40 : ((im_189.2.2.2.2.2.2.2.drop 40).take 40).all (ip_che im_189) = true := by decide +kernel
set_option maxRecDepth 100000 in
theorem ik_189_80 : ((im_189.2.2.2.2.2.2.2.drop 80).take 40).all (ip_che im_189) = true := by decide +kernel
set_option maxRecDepth 100000 in
theorem ik_189_120 : (im_189.2.2.2.2.2.2.2.drop 120).all (ip_che im_189) = true := by decide +kernel
theorem ik_189 : ip_chk im_189 = true := ip_ch0 (ip_ch2 ik_189_0 (ip_ch2 ik_189_40 (ip_ch2 ik_189_80 (ik_189_120))))
set_option maxRecDepth 100000 in
theorem ik_190 : ip_chk im_190 = true := by decide +kernel
set_option maxRecDepth 100000 in
theorem ik_191 : ip_chk im_191 = true := by decide +kernel
set_option maxRecDepth 100000 in
theorem ik_192 : ip_chk im_192 = true := by decide +kernel
set_option maxRecDepth 100000 in
theorem ik_193 : ip_chk im_193 = true := by decide +kernel
set_option maxRecDepth 100000 in
theorem ik_194 : ip_chk im_194 = true := by decide +kernel
set_option maxRecDepth 100000 in
theorem ik_195 : ip_chk im_195 = true := by decide +kernel
set_option maxRecDepth 100000 in
theorem ik_196_0 : ((im_196.2.2.2.2.2.2.2.drop 0).take 40).all (ip_che im_196) = true := by decide +kernel
set_option maxRecDepth 100000 in
theorem ik_196_40 : ((im_196.2.2.2.2.2.2.2.drop 40).take 40).all (ip_che im_196) = true := by decide +kernel
set_option maxRecDepth 100000 in
theorem ik_196_80 : ((im_196.2.2.2.2.2.2.2.drop 80).take 40).all (ip_che im_196) = true := by decide +kernel
set_option maxRecDepth 100000 in
theorem ik_196_120 : (im_196.2.2.2.2.2.2.2.drop 120).all (ip_che im_196) = true := by decide +kernel
theorem ik_196 : ip_chk im_196 = true := ip_ch0 (ip_ch2 ik_196_0 (ip_ch2 ik_196_40 (ip_ch2 ik_196_80 (ik_196_120))))
set_option maxRecDepth 100000 in
theorem ik_197 : ip_chk im_197 = true := by decide +kernel
set_option maxRecDepth 100000 in
theorem ik_198 : ip_chk im_198 = true := by decide +kernel
set_option maxRecDepth 100000 in
theorem ik_199_0 : ((im_199.2.2.2.2.2.2.2.drop 0).take 40).all (ip_che im_199) = true := by decide +kernel
set_option maxRecDepth 100000 in
theorem ik_199_40 : (im_199.2.2.2.2.2.2.2.drop 40).all (ip_che im_199) = true := by decide +kernel
theorem ik_199 : ip_chk im_199 = true := ip_ch0 (ip_ch2 ik_199_0 (ik_199_40))
set_option maxRecDepth 100000 in
theorem ik_200 : ip_chk im_200 = true := by decide +kernel
set_option maxRecDepth 100000 in
theorem ik_201_0 : ((im_201.2.2.2.2.2.2.2.drop 0).take 40).all (ip_che im_201) = true := by decide +kernel
set_option maxRecDepth 100000 in
theorem ik_201_40 : (im_201.2.2.2.2.2.2.2.drop 40).all (ip_che im_201) = true := by decide +kernel
theorem ik_201 : ip_chk im_201 = true := ip_ch0 (ip_ch2 ik_201_0 (ik_201_40))
set_option maxRecDepth 100000 in
theorem ik_202 : ip_chk im_202 = true := by decide +kernel
set_option maxRecDepth 100000 in
theorem ik_203_0 : ((im_203.2.2.2.2.2.2.2.drop 0).take 40).all (ip_che im_203) = true := by decide +kernel
set_option maxRecDepth 100000 in
theorem ik_203_40 : (im_203.2.2.2.2.2.2.2.drop 40).all (ip_che im_203) = true := by decide +kernel
theorem ik_203 : ip_chk im_203 = true := ip_ch0 (ip_ch2 ik_203_0 (ik_203_40))
