set_option maxRecDepth 100000 in
theorem ik_93 : ip_chk im_93 = true := by decide +kernel
set_option maxRecDepth 100000 in
theorem ik_94 : ip_chk im_94 = true := by decide +kernel
set_option maxRecDepth 100000 in
theorem ik_95 : ip_chk im_95 = true := by decide +kernel
set_option maxRecDepth 100000 in
theorem ik_96 : ip_chk im_96 = true := by decide +kernel
set_option maxRecDepth 100000 in
theorem ik_97 : ip_chk im_97 = true := by decide +kernel
set_option maxRecDepth 100000 in
theorem ik_98 : ip_chk im_98 = true := by decide +kernel
set_option maxRecDepth 100000 in
theorem ik_99 : ip_chk im_99 = true := by decide +kernel
set_option maxRecDepth 100000 in
theorem ik_100 : ip_chk im_100 = true := by decide +kernel
set_option maxRecDepth 100000 in
theorem ik_101 : ip_chk im_101 = true := by decide +kernel
set_option maxRecDepth 100000 in
theorem ik_102 : ip_chk im_102 = true := by decide +kernel
set_option maxRecDepth 100000 in
theorem ik_103 : ip_chk im_103 = true := by decide +kernel
set_option maxRecDepth 100000 in
theorem ik_104_0 : ((im_104.2.2.2.2.2.2.2.drop 0).take 40).all (ip_che im_104) = true := by decide +kernel
set_option maxRecDepth 100000 in
theorem ik_104_40 : (im_104.2.2.2.2.2.2.2.drop 40).all (ip_che im_104) = true := by decide +kernel
theorem ik_104 : ip_chk im_104 = true := ip_ch0 (ip_ch2 ik_104_0 (ik_104_40))
set_option maxRecDepth 100000 in
theorem ik_105 : ip_chk im_105 = true := by decide +kernel
set_option maxRecDepth 100000 in
theorem ik_106 : ip_chk im_106 = true := by decide +kernel
set_option maxRecDepth 100000 in
theorem ik_107 : ip_chk im_107 = true := by decide +kernel
set_option maxRecDepth 100000 in
theorem ik_108 : ip_chk im_108 = true := by decide +kernel
set_option maxRecDepth 100000 in
theorem ik_109 : ip_chk im_109 = true := by decide +kernel
set_option maxRecDepth 100000 in
theorem ik_110 : ip_chk im_110 = true := by decide +kernel
set_option maxRecDepth 100000 in
theorem ik_111 : ip_chk im_111 = true := by decide +kernel
set_option maxRecDepth 100000 in
theorem ik_112 : ip_chk im_112 = true := by decide +kernel
set_option maxRecDepth 100000 in
theorem ik_113 : ip_chk im_113 = true := by decide +kernel
set_option maxRecDepth 100000 in
theorem ik_114_0 : ((im_114.2.2.2.2.2.2.2.drop 0).take 40).all (ip_che im_114) = true := by decide +kernel
set_option maxRecDepth 100000 in
theorem ik_114_40 : ((im_114.2.2.2.2.2.2.2.drop 40).take 40).all (ip_che im_114) = true := by decide +kernel
set_option maxRecDepth 100000 in
theorem ik_114_80 : (im_114.2.2.2.2.2.2.2.drop 80).all (ip_che im_114) = true := by decide +kernel
theorem ik_114 : ip_chk im_114 = true := ip_ch0 (ip_ch2 ik_114_0 (ip_ch2 ik_114_40 (ik_114_80)))
set_option maxRecDepth 100000 in
theorem ik_115 : ip_chk im_115 = true := by decide +kernel
set_option maxRecDepth 100000 in
theorem ik_116 : ip_chk im_116 = true := by decide +kernel
set_option maxRecDepth 100000 in
theorem ik_117 : ip_chk im_117 = true := by decide +kernel
set_option maxRecDepth 100000 in
theorem ik_118_0 : ((im_118.2.2.2.2.2.2.2.drop 0).take 40).all (ip_che im_118) = true := by decide +kernel
set_option maxRecDepth 100000 in
theorem ik_118_40 : (im_118.2.2.2.2.2.2.2.drop 40).all (ip_che im_118) = true := by decide +kernel
theorem ik_118 : ip_chk im_118 = true := ip_ch0 (ip_ch2 ik_118_0 (ik_118_40))
set_option maxRecDepth 100000 in
theorem ik_119 : ip_chk im_119 = true := by decide +kernel
set_option maxRecDepth 100000 in
theorem ik_120 : ip_chk im_120 = true := by decide +kernel
set_option maxRecDepth 100000 in
theorem ik_121 : ip_chk im_121 = true := by decide +kernel
set_option maxRecDepth 100000 in
theorem ik_122 : ip_chk im_122 = true := by decide +kernel
set_option maxRecDepth 100000 in
theorem ik_123 : ip_chk im_123 = true := by decide +kernel
set_option maxRecDepth 100000 in
theorem ik_124 : ip_chk im_124 = true := by decide +kernel
set_option maxRecDepth 100000 in
theorem ik_125 : ip_chk im_125 = true := by decide +kernel
set_option maxRecDepth 100000 in
theorem ik_126 : ip_chk im_126 = true := by decide +kernel
