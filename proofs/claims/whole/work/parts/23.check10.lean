set_option maxRecDepth 100000 in
theorem ik_253_0 : ((im_253.2.2.2.2.2.2.2.drop 0).take 40).all (ip_che im_253) = true := by decide +kernel
set_option maxRecDepth 100000 in
theorem ik_253_40 : (im_253.2.2.2.2.2.2.2.drop 40).all (ip_che im_253) = true := by decide +kernel
theorem ik_253 : ip_chk im_253 = true := ip_ch0 (ip_ch2 ik_253_0 (ik_253_40))
set_option maxRecDepth 100000 in
theorem ik_254 : ip_chk im_254 = true := by decide +kernel
set_option maxRecDepth 100000 in
theorem ik_255 : ip_chk im_255 = true := by decide +kernel
set_option maxRecDepth 100000 in
theorem ik_256 : ip_chk im_256 = true := by decide +kernel
set_option maxRecDepth 100000 in
theorem ik_257_0 : ((im_257.2.2.2.2.2.2.2.drop 0).take 40).all (ip_che im_257) = true := by decide +kernel
set_option maxRecDepth 100000 in
theorem ik_257_40 : (im_257.2.2.2.2.2.2.2.drop 40).all (ip_che im_257) = true := by decide +kernel
theorem ik_257 : ip_chk im_257 = true := ip_ch0 (ip_ch2 ik_257_0 (ik_257_40))
set_option maxRecDepth 100000 in
theorem ik_258_0 : ((im_258.2.2.2.2.2.2.2.drop 0).take 40).all (ip_che im_258) = true := by decide +kernel
set_option maxRecDepth 100000 in
theorem ik_258_40 : (im_258.2.2.2.2.2.2.2.drop 40).all (ip_che im_258) = true := by decide +kernel
theorem ik_258 : ip_chk im_258 = true := ip_ch0 (ip_ch2 ik_258_0 (ik_258_40))
set_option maxRecDepth 100000 in
theorem ik_259 : ip_chk im_259 = true := by decide +kernel
set_option maxRecDepth 100000 in
theorem ik_260 : ip_chk im_260 = true := by decide +kernel
set_option maxRecDepth 100000 in
theorem ik_261 : ip_chk im_261 = true := by decide +kernel
set_option maxRecDepth 100000 in
theorem ik_262 : ip_chk im_262 = true := by decide +kernel
set_option maxRecDepth 100000 in
theorem ik_263 : ip_chk im_263 = true := by decide +kernel
set_option maxRecDepth 100000 in
theorem ik_264 : ip_chk im_264 = true := by decide +kernel
set_option maxRecDepth 100000 in
theorem ik_265 : ip_chk im_265 = true := by decide +kernel
set_option maxRecDepth 100000 in
theorem ik_266 : ip_chk im_266 = true := by decide +kernel
set_option maxRecDepth 100000 in
theorem ik_267 : ip_chk im_267 = true := by decide +kernel
set_option maxRecDepth 100000 in
theorem ik_268 : ip_chk im_268 = true := by decide +kernel
set_option maxRecDepth 100000 in
theorem ik_269 : ip_chk im_269 = true := by decide +kernel
set_option maxRecDepth 100000 in
theorem ik_270 : ip_chk im_270 = true := by decide +kernel
set_option maxRecDepth 100000 in
theorem ik_271 : ip_chk im_271 = true := by decide +kernel
set_option maxRecDepth 100000 in
theorem ik_272 : ip_chk im_272 = true := by decide +kernel
set_option maxRecDepth 100000 in
theorem ik_273 : ip_chk im_273 = true := by decide +kernel
set_option maxRecDepth 100000 in
theorem ik_274 : ip_chk im_274 = true := by decide +kernel
set_option maxRecDepth 100000 in
theorem ik_275 : ip_chk im_275 = true := by decide +kernel
set_option maxRecDepth 100000 in
theorem ik_276 : ip_chk im_276 = true := by decide +kernel
set_option maxRecDepth 100000 in
theorem ik_277 : ip_chk im_277 = true := by decide +kernel
set_option maxRecDepth 100000 in
theorem ik_278_0 : ((im_278.2.2.2.2.2.2.2.drop 0).take 40).all (ip_che im_278) = true := by decide +kernel
set_option maxRecDepth 100000 in
theorem ik_278_40 : ((im_278.2.2.2.2.2.2.2.drop 40).take 40).all (ip_che im_278) = true := by decide +kernel
set_option maxRecDepth 100000 in
theorem ik_278_80 : ((im_278.2.2.2.2.2.2.2.drop 80).take 40).all (ip_che im_278) = true := by decide +kernel
set_option maxRecDepth 100000 in
theorem ik_278_120 : ((im_278.2.2.2.2.2.2.2.drop 120).take 40).all (ip_che im_278) = true := by decide +kernel
set_option maxRecDepth 100000 in
theorem ik_278_160 : (im_278.2.2.2.2.2.2.2.drop 160).all (ip_che im_278) = true := by decide +kernel
theorem ik_278 : ip_chk im_278 = true := ip_ch0 (ip_ch2 ik_278_0 (ip_ch2 ik_278_40 (ip_ch2 ik_278_80 (ip_ch2 ik_278_120 (ik_278_160)))))
set_option maxRecDepth 100000 in
theorem ik_279 : ip_chk im_279 = true := by decide +kernel
