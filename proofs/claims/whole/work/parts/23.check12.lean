set_option maxRecDepth 100000 in
theorem ik_306 : ip_chk im_306 = true := by decide +kernel
set_option maxRecDepth 100000 in
theorem ik_307 : ip_chk im_307 = true := by decide +kernel
set_option maxRecDepth 100000 in
theorem ik_308 : ip_chk im_308 = true := by decide +kernel
set_option maxRecDepth 100000 in
theorem ik_309_0 : ((im_309.2.2.2.2.2.2.2.drop 0).take 40).all (ip_che im_309) = true := by decide +kernel
set_option maxRecDepth 100000 in
theorem ik_309_40 : ((im_309.2.2.2.2.2.2.2.drop 40).take 40).all (ip_che im_309) = true := by decide +kernel
set_option maxRecDepth 100000 in
theorem ik_309_80 : (im_309.2.2.2.2.2.2.2.drop 80).all (ip_che im_309) = true := by decide +kernel
theorem ik_309 : ip_chk im_309 = true := ip_ch0 (ip_ch2 ik_309_0 (ip_ch2 ik_309_40 (ik_309_80)))
set_option maxRecDepth 100000 in
theorem ik_310_0 : ((im_310.2.2.2.2.2.2.2.drop 0).take 40).all (ip_che im_310) = true := by decide +kernel
set_option maxRecDepth 100000 in
theorem ik_310_40 : (im_310.2.2.2.2.2.2.2.drop 40).all (ip_che im_310) = true := by decide +kernel
theorem ik_310 : ip_chk im_310 = true := ip_ch0 (ip_ch2 ik_310_0 (ik_310_40))
set_option maxRecDepth 100000 in
theorem ik_311_0 : ((im_311.2.2.2.2.2.2.2.drop 0).take 40).all (ip_che im_311) = true := by decide +kernel
set_option maxRecDepth 100000 in
theorem ik_311_40 : (im_311.2.2.2.2.2.2.2.drop 40).all (ip_che im_311) = true := by decide +kernel
theorem ik_311 : ip_chk im_311 = true := ip_ch0 (ip_ch2 ik_311_0 (ik_311_40))
set_option maxRecDepth 100000 in
theorem ik_312 : ip_chk im_312 = true := by decide +kernel
set_option maxRecDepth 100000 in
theorem ik_313 : ip_chk im_313 = true := by decide +kernel
set_option maxRecDepth 100000 in
theorem ik_314 : ip_chk im_314 = true := by decide +kernel
set_option maxRecDepth 100000 in
theorem ik_315 : ip_chk im_315 = true := by decide +kernel
set_option maxRecDepth 100000 in
theorem ik_316 : ip_chk im_316 = true := by decide +kernel
set_option maxRecDepth 100000 in
theorem ik_317 : ip_chk im_317 = true := by decide +kernel
set_option maxRecDepth 100000 in
theorem ik_318 : ip_chk im_318 = true := by decide +kernel
set_option maxRecDepth 100000 in
theorem ik_319 : ip_chk im_319 = true := by decide +kernel
set_option maxRecDepth 100000 in
theorem ik_320 : ip_chk im_320 = true := by decide +kernel
set_option maxRecDepth 100000 in
theorem ik_321 : ip_chk im_321 = true := by decide +kernel
