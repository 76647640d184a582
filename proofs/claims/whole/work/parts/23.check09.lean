set_option maxRecDepth 100000 in
theorem ik_232 : ip_chk im_232 = true := by decide +kernel
set_option maxRecDepth 100000 in
theorem ik_233_0 : ((im_233.2.2.2.2.2.2.2.drop 0).take 40).all (ip_che im_233) = true := by decide +kernel
set_option maxRecDepth 100000 in
theorem ik_233_40 : (im_233.2.2.2.2.2.2.2.drop 40).all (ip_che im_233) = true := by decide +kernel
theorem ik_233 : ip_chk im_233 = true := ip_ch0 (ip_ch2 ik_233_0 (ik_233_40))
set_option maxRecDepth 100000 in
theorem ik_234 : ip_chk im_234 = true := by decide +kernel
set_option maxRecDepth 100000 in
theorem ik_235 : ip_chk im_235 = true := by decide +kernel
set_option maxRecDepth 100000 in
theorem ik_236 : ip_chk im_236 = true := by decide +kernel
set_option maxRecDepth 100000 in
theorem ik_237 : ip_chk im_237 = true := by decide +kernel
set_option maxRecDepth 100000 in
theorem ik_238_0 : ((im_238.2.2.2.2.2.2.2.drop 0).take 40).all (ip_che im_238) = true := by decide +kernel
set_option maxRecDepth 100000 in
theorem ik_238_40 : (im_238.2.2.2.2.2.2.2.drop 40).all (ip_che im_238) = true := by decide +kernel
theorem ik_238 : ip_chk im_238 = true := ip_ch0 (ip_ch2 ik_238_0 (ik_238_40))
set_option maxRecDepth 100000 in
theorem ik_239 : ip_chk im_239 = true := by decide +kernel
set_option maxRecDepth 100000 in
theorem ik_240_0 : ((im_240.2.2.2.2.2.2.2.drop 0).take 40).all (ip_che im_240) = true := by decide +kernel
set_option maxRecDepth 100000 in
theorem ik_240_40 : (im_240.2.2.2.2.2.2.2.drop 40).all (ip_che im_240) = true := by decide +kernel
theorem ik_240 : ip_chk im_240 = true := ip_ch0 (ip_ch2 ik_240_0 (ik_240_40))
set_option maxRecDepth 100000 in
theorem ik_241 : ip_chk im_241 = true := by decide +kernel
set_option maxRecDepth 100000 in
theorem ik_242 : ip_chk im_242 = true := by decide +kernel
set_option maxRecDepth 100000 in
theorem ik_243_0 : ((im_243.2.2.2.2.2.2.2.drop 0).take 40).all (ip_che im_243) = true := by decide +kernel
set_option maxRecDepth 100000 in
theorem ik_243_40 : (im_243.2.2.2.2.2.2.2.drop 40).all (ip_che im_243) = true := by decide +kernel
theorem ik_243 : ip_chk im_243 = true := ip_ch0 (ip_ch2 ik_243_0 (ik_243_40))
set_option maxRecDepth 100000 in
theorem ik_244 : ip_chk im_244 = true := by decide +kernel
set_option maxRecDepth 100000 in
theorem ik_245_0 : ((im_245.2.2.2.2.2.2.2.drop 0).take 40).all (ip_che im_245) = true := by decide +kernel
set_option maxRecDepth 100000 in
theorem ik_245_40 : (im_245.2.2.2.2.2.2.2.drop 40).all (ip_che im_245) = true := by decide +kernel
theorem ik_245 : ip_chk im_245 = true := ip_ch0 (ip_ch2 ik_245_0 (ik_245_40))
set_option maxRecDepth 100000 in
theorem ik_246_0 : ((im_246.2.2.2.2.2.2.2.drop 0).take 40).all (ip_che im_246) = true := by decide +kernel
set_option maxRecDepth 100000 in
theorem ik_246_40 : ((im_246.2.2.2.2.2.2.2.drop 40).take 40).all (ip_che im_246) = true := by decide +kernel
set_option maxRecDepth 100000 in
theorem ik_246_80 : ((im_246.2.2.2.2.2.2.2.drop 80).take 40).all (ip_che im_246) = true := by decide +kernel
set_option maxRecDepth 100000 in
theorem ik_246_120 : (im_246.2.2.2.2.2.2.2.drop 120).all (ip_che im_246) = true := by decide +kernel
theorem ik_246 : ip_chk im_246 = true := ip_ch0 (ip_ch2 ik_246_0 (ip_ch2 ik_246_40 (ip_ch2 ik_246_80 (ik_246_120))))
set_option maxRecDepth 100000 in
theorem ik_247 : ip_chk im_247 = true := by decide +kernel
set_option maxRecDepth 100000 in
theorem ik_248 : ip_chk im_248 = true := by decide +kernel
set_option maxRecDepth 100000 in
theorem ik_249 : ip_chk im_249 = true := by decide +kernel
set_option maxRecDepth 100000 in
theorem ik_250 : ip_chk im_250 = true := by decide +kernel
set_option maxRecDepth 100000 in
theorem ik_251 : ip_chk im_251 = true := by decide +kernel
set_option maxRecDepth 100000 in
theorem ik_252_0 : ((im_252.2.2.2.2.2.2.2.drop 0).take 40).all (ip_che im_252) = true := by decide +kernel
set_option maxRecDepth 100000 in
theorem ik_252_40 : ((im_252.2.2.2.2.2.2.2.drop 40).take 40).all (ip_che im_252) = true := by decide +kernel
set_option maxRecDepth 100000 in
theorem ik_252_80 : ((im_252.2.2.2.2.2.2.2.drop 80).take 40).all (ip_che im_252) = true := by decide +kernel
set_option maxRecDepth 100000 in
theorem ik_252_120 : (im_252.2.2.2.2.2.2.2.drop 120).all (ip_che im_252) = true := by decide +kernel
theorem ik_252 : ip_chk im_252 = true := ip_ch0 (ip_ch2 ik_252_0 (ip_ch2 ik_252_40 (ip_ch2 ik_252_80 (ik_252_120))))
