set_option maxRecDepth 100000 in
theorem ik_38_0 : ((im_38.2.2.2.2.2.2.2.drop 0).take 40).all (ip_che im_38) = true := by decide +kernel
set_option maxRecDepth 100000 in
theorem ik_38_40 : (im_38.2.2.2.2.2.2.2.drop 40).all (ip_che im_38) = true := by decide +kernel
theorem ik_38 : ip_chk im_38 = true := ip_ch0 (ip_ch2 ik_38_0 (ik_38_40))
set_option maxRecDepth 100000 in
theorem ik_39 : ip_chk im_39 = true := by decide +kernel
set_option maxRecDepth 100000 in
theorem ik_40 : ip_chk im_40 = true := by decide +kernel
set_option maxRecDepth 100000 in
theorem ik_41 : ip_chk im_41 = true := by decide +kernel
set_option maxRecDepth 100000 in
theorem ik_42 : ip_chk im_42 = true := by decide +kernel
set_option maxRecDepth 100000 in
theorem ik_43 : ip_chk im_43 = true := by decide +kernel
set_option maxRecDepth 100000 in
theorem ik_44 : ip_chk im_44 = true := by decide +kernel
set_option maxRecDepth 100000 in
theorem ik_45 : ip_chk im_45 = true := by decide +kernel
set_option maxRecDepth 100000 in
theorem ik_46 : ip_chk im_46 = true := by decide +kernel
set_option maxRecDepth 100000 in
theorem ik_47 : ip_chk im_47 = true := by decide +kernel
set_option maxRecDepth 100000 in
theorem ik_48 : ip_chk im_48 = true := by decide +kernel
set_option maxRecDepth 100000 in
theorem ik_49 : ip_chk im_49 = true := by decide +kernel
set_option maxRecDepth 100000 in
theorem ik_50_0 : ((im_50.2.2.2.2.2.2.2.drop 0).take 40).all (ip_che im_50) = true := by decide +kernel
set_option maxRecDepth 100000 in
theorem ik_50_40 : (im_50.2.2.2.2.2.2.2.drop 40).all (ip_che im_50) = true := by decide +kernel
theorem ik_50 : ip_chk im_50 = true := ip_ch0 (ip_ch2 ik_50_0 (ik_50_40))
set_option maxRecDepth 100000 in
theorem ik_51 : ip_chk im_51 = true := by decide +kernel
set_option maxRecDepth 100000 in
theorem ik_52_0 : ((im_52.2.2.2.2.2.2.2.drop 0).take 40).all (ip_che im_52) = true := by decide +kernel
set_option maxRecDepth 100000 in
theorem ik_52_40 : (im_52.2.2.2.2.2.2.2.drop 40).all (ip_che im_52) = true := by decide +kernel
theorem ik_52 : ip_chk im_52 = true := ip_ch0 (ip_ch2 ik_52_0 (ik_52_40))
set_option maxRecDepth 100000 in
theorem ik_53_0 : ((im_53.2.2.2.2.2.2.2.drop 0).take 40).all (ip_che im_53) = true := by decide +kernel
set_option maxRecDepth 100000 in
theorem ik_53_40 : (im_53.2.2.2.2.2.2.2.drop 40).all (ip_che im_53) = true := by decide +kernel
theorem ik_53 : ip_chk im_53 = true := ip_ch0 (ip_ch2 ik_53_0 (ik_53_40))
set_option maxRecDepth 100000 in
theorem ik_54_0 : ((im_54.2.2.2.2.2.2.2.drop 0).take 40).all (ip_che im_54) = true := by decide +kernel
set_option maxRecDepth 100000 in
theorem ik_54_40 : ((im_54.2.2.2.2.2.2.2.drop 40).take 40).all (ip_che im_54) = true := by decide +kernel
set_option maxRecDepth 100000 in
theorem ik_54_80 : (im_54.2.2.2.2.2.2.2.drop 80).all (ip_che im_54) = true := by decide +kernel
theorem ik_54 : ip_chk im_54 = true := ip_ch0 (ip_ch2 ik_54_0 (ip_ch2 ik_54_40 (ik_54_80)))
set_option maxRecDepth 100000 in
theorem ik_55 : ip_chk im_55 = true := by decide +kernel
set_option maxRecDepth 100000 in
theorem ik_56 : ip_chk im_56 = true := by decide +kernel
set_option maxRecDepth 100000 in
theorem ik_57_0 : ((im_57.2.2.2.2.2.2.2.drop 0).take 40).all (ip_che im_57) = true := by decide +kernel
set_option maxRecDepth 100000 in
theorem ik_57_40 : ((im_57.2.2.2.2.2.2.2.drop 40).take 40).all (ip_che im_57) = true := by decide +kernel
set_option maxRecDepth 100000 in
theorem ik_57_80 : (im_57.2.2.2.2.2.2.2.drop 80).all (ip_che im_57) = true := by decide +kernel
theorem ik_57 : ip_chk im_57 = true := ip_ch0 (ip_ch2 ik_57_0 (ip_ch2 ik_57_40 (ik_57_80)))
set_option maxRecDepth 100000 in
theorem ik_58 : ip_chk im_58 = true := by decide +kernel
set_option maxRecDepth 100000 in
theorem ik_59 : ip_chk im_59 = true := by decide +kernel
set_option maxRecDepth 100000 in
theorem ik_60 : ip_chk im_60 = true := by decide +kernel
set_option maxRecDepth 100000 in
theorem ik_61 : ip_chk im_61 = true := by decide +kernel
set_option maxRecDepth 100000 in
theorem ik_62 : ip_chk im_62 = true := by decide +kernel
set_option maxRecDepth 100000 in
theorem ik_63_0 : ((im_63.2.2.2.2.2.2.2.drop 0).take 40).all (ip_che im_63) = true := by decide +kernel
set_option maxRecDepth 100000 in
theorem ik_63_40 : ((im_63.2.2.2.2.2.2.2.drop 40).take 40).all (ip_che im_63) = true := by decide +kernel
set_option maxRecDepth 100000 in
theorem ik_63_80 : ((im_63.2.2.2.2.2.2.2.drop 80).take 40).all (ip_che im_63) = true := by decide +kernel
set_option maxRecDepth 100000 in
theorem ik_63_120 : (im_63.2.2.2.2.2.2.2.drop 120).all (ip_che im_63) = true := by decide +kernel
theorem ik_63 : ip_chk im_63 = true := ip_ch0 (ip_ch2 ik_63_0 (ip_ch2 ik_63_40 (ip_ch2 ik_63_80 (ik_63_120))))
