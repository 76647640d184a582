set_option maxRecDepth 100000 in
theorem ik_64 : ip_chk im_64 = true := by decide +kernel
set_option maxRecDepth 100000 in
theorem ik_65 : ip_chk im_65 = true := by decide +kernel
set_option maxRecDepth 100000 in
theorem ik_66 : ip_chk im_66 = true := by decide +kernel
set_option maxRecDepth 100000 in
theorem ik_67 : ip_chk im_67 = true := by decide +kernel
set_option maxRecDepth 100000 in
theorem ik_68 : ip_chk im_68 = true := by decide +kernel
set_option maxRecDepth 100000 in
theorem ik_69 : ip_chk im_69 = true := by decide +kernel
set_option maxRecDepth 100000 in
theorem ik_70 : ip_chk im_70 = true := by decide +kernel
set_option maxRecDepth 100000 in
theorem ik_71 : ip_chk im_71 = true := by decide +kernel
set_option maxRecDepth 100000 in
theorem ik_72 : ip_chk im_72 = true := by decide +kernel
set_option maxRecDepth 100000 in
theorem ik_73 : ip_chk im_73 = true := by decide +kernel
set_option maxRecDepth 100000 in
theorem ik_74 : ip_chk im_74 = true := by decide +kernel
set_option maxRecDepth 100000 in
theorem ik_75_0 : ((im_75.2.2.2.2.2.2.2.drop 0).take 40).all (ip_che im_75) = true := by decide +kernel
set_option maxRecDepth 100000 in
theorem ik_75_40 : (im_75.2.2.2.2.2.2.2.drop 40).all (ip_che im_75) = true := by decide +kernel
theorem ik_75 : ip_chk im_75 = true := ip_ch0 (ip_ch2 ik_75_0 (ik_75_40))
set_option maxRecDepth 100000 in
theorem ik_76 : ip_chk im_76 = true := by decide +kernel
set_option maxRecDepth 100000 in
theorem ik_77 : ip_chk im_77 = true := by decide +kernel
set_option maxRecDepth 100000 in
theorem ik_78 : ip_chk im_78 = true := by decide +kernel
set_option maxRecDepth 100000 in
theorem ik_79 : ip_chk im_79 = true := by decide +kernel
set_option maxRecDepth 100000 in
theorem ik_80_0 : ((im_80.2.2.2.2.2.2.2.drop 0).take 40).all (ip_che im_80) = true := by decide +kernel
set_option maxRecDepth 100000 in
theorem ik_80_40 : (im_80.2.2.2.2.2.2.2.drop 40).all (ip_che im_80) = true := by decide +kernel
theorem ik_80 : ip_chk im_80 = true := ip_ch0 (ip_ch2 ik_80_0 (ik_80_40))
set_option maxRecDepth 100000 in
theorem ik_81 : ip_chk im_81 = true := by decide +kernel
set_option maxRecDepth 100000 in
theorem ik_82 : ip_chk im_82 = true := by decide +kernel
set_option maxRecDepth 100000 in
theorem ik_83_0 : ((im_83.2.2.2.2.2.2.2.drop 0).take 40).all (ip_che im_83) = true := by decide +kernel
set_option maxRecDepth 100000 in
theorem ik_83_40 : (im_83.2.2.2.2.2.2.2.drop 40).all (ip_che im_83) = true := by decide +kernel
theorem ik_83 : ip_chk im_83 = true := ip_ch0 (ip_ch2 ik_83_0 (ik_83_40))
set_option maxRecDepth 100000 in
theorem ik_84_0 : ((im_84.2.2.2.2.2.2.2.drop 0).take 40).all (ip_che im_84) = true := by decide +kernel
set_option maxRecDepth 100000 in
theorem ik_84_40 : (im_84.2.2.2.2.2.2.2.drop 40).all (ip_che im_84) = true := by decide +kernel
theorem ik_84 : ip_chk im_84 = true := ip_ch0 (ip_ch2 ik_84_0 (ik_84_40))
set_option maxRecDepth 100000 in
theorem ik_85 : ip_chk im_85 = true := by decide +kernel
set_option maxRecDepth 100000 in
theorem ik_86 : ip_chk im_86 = true := by decide +kernel
set_option maxRecDepth 100000 in
theorem ik_87_0 : ((im_87.2.2.2.2.2.2.2.drop 0).take 40).all (ip_che im_87) = true := by decide +kernel
set_option maxRecDepth 100000 in
theorem ik_87_40 : (im_87.2.2.2.2.2.2.2.drop 40).all (ip_che im_87) = true := by decide +kernel
theorem ik_87 : ip_chk im_87 = true := ip_ch0 (ip_ch2 ik_87_0 (ik_87_40))
set_option maxRecDepth 100000 in
theorem ik_88_0 : ((im_88.2.2.2.2.2.2.2.drop 0).take 40).all (ip_che im_88) = true := by decide +kernel
set_option maxRecDepth 100000 in
theorem ik_88_40 : ((im_88.2.2.2.2.2.2.2.drop 40).take 40).all (ip_che im_88) = true := by decide +kernel
set_option maxRecDepth 100000 in
theorem ik_88_80 : (im_88.2.2.2.2.2.2.2.drop 80).all (ip_che im_88) = true := by decide +kernel
theorem ik_88 : ip_chk im_88 = true := ip_ch0 (ip_ch2 ik_88_0 (ip_ch2 ik_88_40 (ik_88_80)))
set_option maxRecDepth 100000 in
theorem ik_89 : ip_chk im_89 = true := by decide +kernel
set_option maxRecDepth 100000 in
theorem ik_90 : ip_chk im_90 = true := by decide +kernel
set_option maxRecDepth 100000 in
theorem ik_91 : ip_chk im_91 = true := by decide +kernel
set_option maxRecDepth 100000 in
theorem ik_92 : ip_chk im_92 = true := by decide +kernel
