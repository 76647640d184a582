set_option maxRecDepth 100000 in
theorem ik_280_0 : ((im_280.2.2.2.2.2.2.2.drop 0).take 40).all (ip_che im_280) = true := by decide +kernel
set_option maxRecDepth 100000 in
theorem ik_280_40 : (im_280.2.2.2.2.2.2.2.drop 40).all (ip_che im_280) = true := by decide +kernel
theorem ik_280 : ip_chk im_280 = true := ip_ch0 (ip_ch2 ik_280_0 (ik_280_40))
set_option maxRecDepth 100000 in
theorem ik_281 : ip_chk im_281 = true := by decide +kernel
set_option maxRecDepth 100000 in
theorem ik_282 : ip_chk im_282 = true := by decide +kernel
set_option maxRecDepth 100000 in
theorem ik_283 : ip_chk im_283 = true := by decide +kernel
set_option maxRecDepth 100000 in
theorem ik_284 : ip_chk im_284 = true := by decide +kernel
set_option maxRecDepth 100000 in
theorem ik_285_0 : ((im_285.2.2.2.2.2.2.2.drop 0).take 40).all (ip_che im_285) = true := by decide +kernel
set_option maxRecDepth 100000 in
theorem ik_285_40 : (im_285.2.2.2.2.2.2.2.drop 40).all (ip_che im_285) = true := by decide +kernel
theorem ik_285 : ip_chk im_285 = true := ip_ch0 (ip_ch2 ik_285_0 (ik_285_40))
set_option maxRecDepth 100000 in
theorem ik_286 : ip_chk im_286 = true := by decide +kernel
set_option maxRecDepth 100000 in
theorem ik_287 : ip_chk im_287 = true := by decide +kernel
set_option maxRecDepth 100000 in
theorem ik_288 : ip_chk im_288 = true := by decide +kernel
set_option maxRecDepth 100000 in
theorem ik_289 : ip_chk im_289 = true := by decide +kernel
set_option maxRecDepth 100000 in
theorem ik_290 : ip_chk im_290 = true := by decide +kernel
set_option maxRecDepth 100000 in
theorem ik_291 : ip_chk im_291 = true := by decide +kernel
set_option maxRecDepth 100000 in
theorem ik_292 : ip_chk im_292 = true := by decide +kernel
set_option maxRecDepth 100000 in
theorem ik_293_0 : ((im_293.2.2.2.2.2.2.2.drop 0).take 40).all (ip_che im_293) = true := by decide +kernel
set_option maxRecDepth 100000 in
theorem ik_293_40 : (im_293.2.2.2.2.2.2.2.drop 40).all (ip_che im_293) = true := by decide +kernel
theorem ik_293 : ip_chk im_293 = true := ip_ch0 (ip_ch2 ik_293_0 (ik_293_40))
set_option maxRecDepth 100000 in
theorem ik_294 : ip_chk im_294 = true := by decide +kernel
set_option maxRecDepth 100000 in
theorem ik_295 : ip_chk im_295 = true := by decide +kernel
set_option maxRecDepth 100000 in
theorem ik_296 : ip_chk im_296 = true := by decide +kernel
set_option maxRecDepth 100000 in
theorem ik_297 : ip_chk im_297 = true := by decide +kernel
set_option maxRecDepth 100000 in
theorem ik_298_0 : ((im_298.2.2.2.2.2.2.2.drop 0).take 40).all (ip_che im_298) = true := by decide +kernel
set_option maxRecDepth 100000 in
theorem ik_298_40 : (im_298.2.2.2.2.2.2.2.drop 40).all (ip_che im_298) = true := by decide +kernel
theorem ik_298 : ip_chk im_298 = true := ip_ch0 (ip_ch2 ik_298_0 (ik_298_40))
set_option maxRecDepth 100000 in
theorem ik_299 : ip_chk im_299 = true := by decide +kernel
set_option maxRecDepth 100000 in
theorem ik_300_0 : ((im_300.2.2.2.2.2.2.2.drop 0).take 40).all (ip_che im_300) = true := by decide +kernel
set_option maxRecDepth 100000 in
theorem ik_300_40 : ((im_300.2.2.2.2.2.2.2.drop 40).take 40).all (ip_che im_300) = true := by decide +kernel
set_option maxRecDepth 100000 in
theorem ik_300_80 : (im_300.2.2.2.2.2.2.2.drop 80).all (ip_che im_300) = true := by decide +kernel
theorem ik_300 : ip_chk im_300 = true := ip_ch0 (ip_ch2 ik_300_0 (ip_ch2 ik_300_40 (ik_300_80)))
set_option maxRecDepth 100000 in
theorem ik_301 : ip_chk im_301 = true := by decide +kernel
set_option maxRecDepth 100000 in
theorem ik_302_0 : ((im_302.2.2.2.2.2.2.2.drop 0).take 40).all (ip_che im_302) = true := by decide +kernel
set_option maxRecDepth 100000 in
theorem ik_302_40 : (im_302.2.2.2.2.2.2.2.drop 40).all (ip_che im_302) = true := by decide +kernel
theorem ik_302 : ip_chk im_302 = true := ip_ch0 (ip_ch2 ik_302_0 (ik_302_40))
set_option maxRecDepth 100000 in
theorem ik_303 : ip_chk im_303 = true := by decide +kernel
set_option maxRecDepth 100000 in
theorem ik_304 : ip_chk im_304 = true := by decide +kernel
set_option maxRecDepth 100000 in
theorem ik_305_0 : ((im_305.2.2.2.2.2.2.2.drop 0).take 40).all (ip_che im_305) = true := by decide +kernel
set_option maxRecDepth 100000 in
theorem ik_305_40 : ((im_305.2.2.2.2.2.2.2.drop 40).take 40).all (ip_che im_305) = true := by decide +kernel
set_option maxRecDepth 100000 in
theorem ik_305_80 : (im_305.2.2.2.2.2.2.2.drop 80).all (ip_che im_305) = true := by decide +kernel
theorem ik_305 : ip_chk im_305 = true := ip_ch0 (ip_ch2 ik_305_0 (ip_ch2 ik_305_40 (ik_305_80)))
