set_option maxRecDepth 100000 in
theorem ik_0_0 : ((im_0.2.2.2.2.2.2.2.drop 0).take 40).all (ip_che im_0) = true := by decide +kernel
set_option maxRecDepth 100000 in
theorem ik_0_40 : ((im_0.2.2.2.2.2.2.2.drop 40).take 40).all (ip_che im_0) = true := by decide +kernel
set_option maxRecDepth 100000 in
theorem ik_0_80 : ((im_0.2.2.2.2.2.2.2.drop 80).take 40).all (ip_che im_0) = true := by decide +kernel
set_option maxRecDepth 100000 in
theorem ik_0_120 : ((im_0.2.2.2.2.2.2.2.drop 120).take 40).all (ip_che im_0) = true := by decide +kernel
set_option maxRecDepth 100000 in
theorem ik_0_160 : ((im_0.2.2.2.2.2.2.2.drop 160).take 40).all (ip_che im_0) = true := by decide +kernel
set_option maxRecDepth 100000 in
theorem ik_0_200 : ((im_0.2.2.2.2.2.2.2.drop 200).take 40).all (ip_che im_0) = true := by decide +kernel
set_option maxRecDepth 100000 in
theorem ik_0_240 : ((im_0.2.2.2.2.2.2.2.drop 240).take 40).all (ip_che im_0) = true := by decide +kernel
set_option maxRecDepth 100000 in
theorem ik_0_280 : ((im_0.2.2.2.2.2.2.2.drop 280).take 40).all (ip_che im_0) = true := by decide +kernel
set_option maxRecDepth 100000 in
theorem ik_0_320 : ((im_0.2.2.2.2.2.2.2.drop 320).take 40).all (ip_che im_0) = true := by decide +kernel
set_option maxRecDepth 100000 in
theorem ik_0_360 : ((im_0.2.2.2.2.2.2.2.drop 360).take 40).all (ip_che im_0) = true := by decide +kernel
set_option maxRecDepth 100000 in
theorem ik_0_400 : ((im_0.2.2.2.2.2.2.2.drop 400).take 40).all (ip_che im_0) = true := by decide +kernel
set_option maxRecDepth 100000 in
theorem ik_0_440 : ((im_0.2.2.2.2.2.2.2.drop 440).take 40).all (ip_che im_0) = true := by decide +kernel
set_option maxRecDepth 100000 in
theorem ik_0_480 : ((im_0.2.2.2.2.2.2.2.drop 480).take 40).all (ip_che im_0) = true := by decide +kernel
set_option maxRecDepth 100000 in
theorem ik_0_520 : ((im_0.2.2.2.2.2.2.2.drop 520).take 40).all (ip_che im_0) = true := by decide +kernel
set_option maxRecDepth 100000 in
theorem ik_0_560 : ((im_0.2.2.2.2.2.2.2.drop 560).take 40).all (ip_che im_0) = true := by decide +kernel
set_option maxRecDepth 100000 in
theorem ik_0_600 : ((im_0.2.2.2.2.2.2.2.drop 600).take 40).all (ip_che im_0) = true := by decide +kernel
set_option maxRecDepth 100000 in
theorem ik_0_640 : ((im_0.2.2.2.2.2.2.2.drop 640).take 40).all (ip_che im_0) = true := by decide +kernel
set_option maxRecDepth 100000 in
theorem ik_0_680 : ((im_0.2.2.2.2.2.2.2.drop 680).take 40).all (ip_che im_0) = true := by decide +kernel
set_option maxRecDepth 100000 in
theorem ik_0_720 : ((im_0.2.2.2.2.2.2.2.drop 720).take 40).all (ip_che im_0) = true := by decide +kernel
set_option maxRecDepth 100000 in
theorem ik_0_760 : ((im_0.2.2.2.2.2.2.2.drop 760).take 40).all (ip_che im_0) = true := by decide +kernel
set_option maxRecDepth 100000 in
theorem ik_0_800 : ((im_0.2.2.2.2.2.2.2.drop 800).take 40).all (ip_che im_0) = true := by decide +kernel
set_option maxRecDepth 100000 in
theorem ik_0_840 : ((im_0.2.2.2.2.2.2.2.drop 840).take 40).all (ip_che im_0) = true := by decide +kernel
set_option maxRecDepth 100000 in
theorem ik_0_880 : ((im_0.2.2.2.2.2.2.2.drop 880).take 40).all (ip_che im_0) = true := by decide +kernel
set_option maxRecDepth 100000 in
theorem ik_0_920 : ((im_0.2.2.2.2.2.2.2.drop 920).take 40).all (ip_che im_0) = true := by decide +kernel
set_option maxRecDepth 100000 in
theorem ik_0_960 : ((im_0.2.2.2.2.2.2.2.drop 960).take 40).all (ip_che im_0) = true := by decide +kernel
set_option maxRecDepth 100000 in
theorem ik_0_1000 : ((im_0.2.2.2.2.2.2.2.drop 1000).take 40).all (ip_che im_0) = true := by decide +kernel
set_option maxRecDepth 100000 in
theorem ik_0_1040 : (im_0.2.2.2.2.2.2.2.drop 1040).all (ip_che im_0) = true := by decide +kernel
theorem ik_0 : ip_chk im_0 = true := ip_ch0 (ip_ch2 ik_0_0 (ip_ch2 ik_0_40 (ip_ch2 ik_0_80 (ip_ch2 ik_0_120 (ip_ch2 ik_0_160 (ip_ch2 ik_0_200 (ip_ch2 ik_0_240 (ip_ch2 ik_0_280 (ip_ch2 ik_0_320 (ip_ch2 ik_0_360 (ip_ch2 ik_0_400 (ip_ch2 ik_0_440 (ip_ch2 ik_0_480 (ip_ch2 ik_0_520 (ip_ch2 ik_0_560 (ip_ch2 ik_0_600 (ip_ch2 ik_0_640 (ip_ch2 ik_0_680 (ip_ch2 ik_0_720 (ip_ch2 ik_0_760 (ip_ch2 ik_0_800 (ip_ch2 ik_0_840 (ip_ch2 ik_0_880 (ip_ch2 ik_0_920 (ip_ch2 ik_0_960 (ip_ch2 ik_0_1000 (ik_0_1040)))))))))))))))))))))))))))
