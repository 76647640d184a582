set_option maxRecDepth 100000 in
theorem ik_204_0 : ((im_204.2.2.2.2.2.2.2.drop 0).take 40).all (ip_che im_204) = true := by decide +kernel
set_option maxRecDepth 100000 in
theorem ik_204_40 : ((im_204.2.2.2.2.2.2.2.drop 40).take 40).all (ip_che im_204) = true := by decide +kernel
set_option maxRecDepth 100000 in
theorem ik_204_80 : (im_204.2.2.2.2.2.2.2.drop 80).all (ip_che im_204) = true := by decide +kernel
theorem ik_204 : ip_chk im_204 = true := ip_ch0 (ip_ch2 ik_204_0 (ip_ch2 ik_204_40 (ik_204_80)))
set_option maxRecDepth 100000 in
theorem ik_205_0 : ((im_205.2.2.2.2.2.2.2.drop 0).take 40).all (ip_che im_205) = true := by decide +kernel
set_option maxRecDepth 100000 in
theorem ik_205_40 : (im_205.2.2.2.2.2.2.2.drop 40).all (ip_che im_205) = true := by decide +kernel
theorem ik_205 : ip_chk im_205 = true := ip_ch0 (ip_ch2 ik_205_0 (ik_205_40))
set_option maxRecDepth 100000 in
theorem ik_206_0 : ((im_206.2.2.2.2.2.2.2.drop 0).take 40).all (ip_che im_206) = true := by decide +kernel
set_option maxRecDepth 100000 in
theorem ik_206_40 : (im_206.2.2.2.2.2.2.2.drop 40).all (ip_che im_206) = true := by decide +kernel
theorem ik_206 : ip_chk im_206 = true := ip_ch0 (ip_ch2 ik_206_0 (ik_206_40))
set_option maxRecDepth 100000 in
theorem ik_207_0 : ((im_207.2.2.2.2.2.2.2.drop 0).take 40).all (ip_che im_207) = true := by decide +kernel
set_option maxRecDepth 100000 in
theorem ik_207_40 : (im_207.2.2.2.2.2.2.2.drop 40).all (ip_che im_207) = true := by decide +kernel
theorem ik_207 : ip_chk im_207 = true := ip_ch0 (ip_ch2 ik_207_0 (ik_207_40))
set_option maxRecDepth 100000 in
theorem ik_208_0 : ((im_208.2.2.2.2.2.2.2.drop 0).take 40).all (ip_che im_208) = true := by decide +kernel
set_option maxRecDepth 100000 in
theorem ik_208_40 : ((im_208.2.2.2.2.2.2.2.drop 40).take 40).all (ip_che im_208) = true := by decide +kernel
set_option maxRecDepth 100000 in
theorem ik_208_80 : (im_208.2.2.2.2.2.2.2.drop 80).all (ip_che im_208) = true := by decide +kernel
theorem ik_208 : ip_chk im_208 = true := ip_ch0 (ip_ch2 ik_208_0 (ip_ch2 ik_208_40 (ik_208_80)))
set_option maxRecDepth 100000 in
theorem ik_209_0 : ((im_209.2.2.2.2.2.2.2.drop 0).take 40).all (ip_che im_209) = true := by decide +kernel
set_option maxRecDepth 100000 in
theorem ik_209_40 : (im_209.2.2.2.2.2.2.2.drop 40).all (ip_che im_209) = true := by decide +kernel
theorem ik_209 : ip_chk im_209 = true := ip_ch0 (ip_ch2 ik_209_0 (ik_209_40))
set_option maxRecDepth 100000 in
theorem ik_210 : ip_chk im_210 = true := by decide +kernel
set_option maxRecDepth 100000 in
theorem ik_211 : ip_chk im_211 = true := by decide +kernel
set_option maxRecDepth 100000 in
theorem ik_212 : ip_chk im_212 = true := by decide +kernel
set_option maxRecDepth 100000 in
theorem ik_213 : ip_chk im_213 = true := by decide +kernel
set_option maxRecDepth 100000 in
theorem ik_214 : ip_chk im_214 = true := by decide +kernel
set_option maxRecDepth 100000 in
theorem ik_215 : ip_chk im_215 = true := by decide +kernel
set_option maxRecDepth 100000 in
theorem ik_216 : ip_chk im_216 = true := by decide +kernel
set_option maxRecDepth 100000 in
theorem ik_217 : ip_chk im_217 = true := by decide +kernel
set_option maxRecDepth 100000 in
theorem ik_218 : ip_chk im_218 = true := by decide +kernel
set_option maxRecDepth 100000 in
theorem ik_219 : ip_chk im_219 = true := by decide +kernel
set_option maxRecDepth 100000 in
theorem ik_220 : ip_chk im_220 = true := by decide +kernel
set_option maxRecDepth 100000 in
theorem ik_221 : ip_chk im_221 = true := by decide +kernel
set_option maxRecDepth 100000 in
theorem ik_222 : ip_chk im_222 = true := by decide +kernel
set_option maxRecDepth 100000 in
theorem ik_223 : ip_chk im_223 = true := by decide +kernel
set_option maxRecDepth 100000 in
theorem ik_224 : ip_chk im_224 = true := by decide +kernel
set_option maxRecDepth 100000 in
theorem ik_225 : ip_chk im_225 = true := by decide +kernel
set_option maxRecDepth 100000 in
theorem ik_226 : ip_chk im_226 = true := by decide +kernel
set_option maxRecDepth 100000 in
theorem ik_227 : ip_chk im_227 = true := by decide +kernel
set_option maxRecDepth 100000 in
theorem ik_228 : ip_chk im_228 = true := by decide +kernel
set_option maxRecDepth 100000 in
theorem ik_229 : ip_chk im_229 = true := by decide +kernel
set_option maxRecDepth 100000 in
theorem ik_230 : ip_chk im_230 = true := by decide +kernel
set_option maxRecDepth 100000 in
theorem ik_231 : ip_chk im_231 = true := by decide +kernel
