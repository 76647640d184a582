set_option maxRecDepth 100000 in
theorem ik_1 : ip_chk im_1 = true := by decide +kernel
set_option maxRecDepth 100000 in
theorem ik_2_0 : ((im_2.2.2.2.2.2.2.2.drop 0).take 40).all (ip_che im_2) = true := by decide +kernel
set_option maxRecDepth 100000 in
theorem ik_2_40 : (im_2.2.2.2.2.2.2.2.drop 40).all (ip_che im_2) = true := by decide +kernel
theorem ik_2 : ip_chk im_2 = true := ip_ch0 (ip_ch2 ik_2_0 (ik_2_40))
set_option maxRecDepth 100000 in
theorem ik_3 : ip_chk im_3 = true := by decide +kernel
set_option maxRecDepth 100000 in
theorem ik_4_0 : ((im_4.2.2.2.2.2.2.2.drop 0).take 40).all (ip_che im_4) = true := by decide +kernel
set_option maxRecDepth 100000 in
theorem ik_4_40 : (im_4.2.2.2.2.2.2.2.drop 40).all (ip_che im_4) = true := by decide +kernel
theorem ik_4 : ip_chk im_4 = true := ip_ch0 (ip_ch2 ik_4_0 (ik_4_40))
set_option maxRecDepth 100000 in
theorem ik_5_0 : ((im_5.2.2.2.2.2.2.2.drop 0).take 40).all (ip_che im_5) = true := by decide +kernel
set_option maxRecDepth 100000 in
theorem ik_5_40 : (im_5.2.2.2.2.2.2.2.drop 40).all (ip_che im_5) = true := by decide +kernel
theorem ik_5 : ip_chk im_5 = true := ip_ch0 (ip_ch2 ik_5_0 (ik_5_40))
set_option maxRecDepth 100000 in
theorem ik_6 : ip_chk im_6 = true := by decide +kernel
set_option maxRecDepth 100000 in
theorem ik_7 : ip_chk im_7 = true := by decide +kernel
set_option maxRecDepth 100000 in
theorem ik_8 : ip_chk im_8 = true := by decide +kernel
set_option maxRecDepth 100000 in
theorem ik_9 : ip_chk im_9 = true := by decide +kernel
set_option maxRecDepth 100000 in
theorem ik_10 : ip_chk im_10 = true := by decide +kernel
set_option maxRecDepth 100000 in
theorem ik_11 : ip_chk im_11 = true := by decide +kernel
set_option maxRecDepth 100000 in
theorem ik_12 : ip_chk im_12 = true := by decide +kernel
set_option maxRecDepth 100000 in
theorem ik_13 : ip_chk im_13 = true := by decide +kernel
set_option maxRecDepth 100000 in
theorem ik_14 : ip_chk im_14 = true := by decide +kernel
set_option maxRecDepth 100000 in
theorem ik_15 : ip_chk im_15 = true := by decide +kernel
set_option maxRecDepth 100000 in
theorem ik_16 : ip_chk im_16 = true := by decide +kernel
set_option maxRecDepth 100000 in
theorem ik_17_0 : ((im_17.2.2.2.2.2.2.2.drop 0).take 40).all (ip_che im_17) = true := by decide +kernel
set_option maxRecDepth 100000 in
theorem ik_17_40 : (im_17.2.2.2.2.2.2.2.drop 40).all (ip_che im_17) = true := by decide +kernel
theorem ik_17 : ip_chk im_17 = true := ip_ch0 (ip_ch2 ik_17_0 (ik_17_40))
set_option maxRecDepth 100000 in
theorem ik_18 : ip_chk im_18 = true := by decide +kernel
set_option maxRecDepth 100000 in
theorem ik_19 : ip_chk im_19 = true := by decide +kernel
set_option maxRecDepth 100000 in
theorem ik_20 : ip_chk im_20 = true := by decide +kernel
set_option maxRecDepth 100000 in
theorem ik_21 : ip_chk im_21 = true := by decide +kernel
set_option maxRecDepth 100000 in
theorem ik_22 : ip_chk im_22 = true := by decide +kernel
set_option maxRecDepth 100000 in
theorem ik_23 : ip_chk im_23 = true := by decide +kernel
set_option maxRecDepth 100000 in
theorem ik_24 : ip_chk im_24 = true := by decide +kernel
set_option maxRecDepth 100000 in
theorem ik_25 : ip_chk im_25 = true := by decide +kernel
set_option maxRecDepth 100000 in
theorem ik_26 : ip_chk im_26 = true := by decide +kernel
set_option maxRecDepth 100000 in
theorem ik_27 : ip_chk im_27 = true := by decide +kernel
set_option maxRecDepth 100000 in
theorem ik_28 : ip_chk im_28 = true := by decide +kernel
set_option maxRecDepth 100000 in
theorem ik_29 : ip_chk im_29 = true := by decide +kernel
set_option maxRecDepth 100000 in
theorem ik_30 : ip_chk im_30 = true := by decide +kernel
set_option maxRecDepth 100000 in
theorem ik_31 : ip_chk im_31 = true := by decide +kernel
set_option maxRecDepth 100000 in
theorem ik_32 : ip_chk im_32 = true := by decide +kernel
set_option maxRecDepth 100000 in
theorem ik_33_0 : ((im_33.2.2.2.2.2.2.2.drop 0).take 40).all (ip_che im_33) = true := by decide +kernel
set_option maxRecDepth 100000 in
theorem ik_33_40 : (im_33.2.2.2.2.2.2.2.drop 40).all (ip_che im_33) = true := by decide +kernel
theorem ik_33 : ip_chk im_33 = true := ip_ch0 (ip_ch2 ik_33_0 (ik_33_40))
set_option maxRecDepth 100000 in
theorem ik_34 : ip_chk im_34 = true := by decide +kernel
set_option maxRecDepth 100000 in
theorem ik_35 : ip_chk im_35 = true := by decide +kernel
set_option maxRecDepth 100000 in
theorem ik_36_0 : ((im_36.2.2.2.2.2.2.2.drop 0).take 40).all (ip_che im_36) = true := by decide +kernel
set_option maxRecDepth 100000 in
theorem ik_36_40 : (im_36.2.2.2.2.2.2.2.drop 40).all (ip_che im_36) = true := by decide +kernel
theorem ik_36 : ip_chk im_36 = true := ip_ch0 (ip_ch2 ik_36_0 (ik_36_40))
set_option maxRecDepth 100000 in
theorem ik_37_0 : ((im_37.2.2.2.2.2.2.2.drop 0).take 40).all (ip_che im_37) = true := by decide +kernel
set_option maxRecDepth 100000 in
theorem ik_37_40 : ((im_37.2.2.2.2.2.2.2.drop 40).take 40).all (ip_che im_37) = true := by decide +kernel
set_option maxRecDepth 100000 in
theorem ik_37_80 : (im_37.2.2.2.2.2.2.2.drop 80).all (ip_che im_37) = true := by decide +kernel
theorem ik_37 : ip_chk im_37 = true := ip_ch0 (ip_ch2 ik_37_0 (ip_ch2 ik_37_40 (ik_37_80)))
