/-! the model's constructor, the law's start; written by wip/gen/g171.py -/
set_option maxRecDepth 8192
section P9
variable {L : Nat} {xs : Nat → Int32} {d : Nat} {P : Option Value → Hp → Prop} {p t u : List AC} {z c i k m a b n : Nat} {v : Value} {vs : List Value} {K : Hp → Prop}
theorem inq2 : (ip_in (nI 2) 65536 = true) = True := eq_true (by decide)
theorem clq2 : (nI 2).toNatClampNeg = 2 := nI_clamp (by omega)
theorem inq4 : (ip_in (nI 4) 65536 = true) = True := eq_true (by decide)
theorem clq4 : (nI 4).toNatClampNeg = 4 := nI_clamp (by omega)
theorem inq5 : (ip_in (nI 5) 65536 = true) = True := eq_true (by decide)
theorem clq5 : (nI 5).toNatClampNeg = 5 := nI_clamp (by omega)
theorem inq6 : (ip_in (nI 6) 65536 = true) = True := eq_true (by decide)
theorem clq6 : (nI 6).toNatClampNeg = 6 := nI_clamp (by omega)
theorem inq7 : (ip_in (nI 7) 65536 = true) = True := eq_true (by decide)
theorem clq7 : (nI 7).toNatClampNeg = 7 := nI_clamp (by omega)
theorem inq8 : (ip_in (nI 8) 65536 = true) = True := eq_true (by decide)
theorem clq8 : (nI 8).toNatClampNeg = 8 := nI_clamp (by omega)
theorem inq16 : (ip_in (nI 16) 65536 = true) = True := eq_true (by decide)
theorem clq16 : (nI 16).toNatClampNeg = 16 := nI_clamp (by omega)
theorem inq20 : (ip_in (nI 20) 65536 = true) = True := eq_true (by decide)
theorem clq20 : (nI 20).toNatClampNeg = 20 := nI_clamp (by omega)
theorem inq40 : (ip_in (nI 40) 65536 = true) = True := eq_true (by decide)
theorem clq40 : (nI 40).toNatClampNeg = 40 := nI_clamp (by omega)
theorem inq240 : (ip_in (nI 240) 65536 = true) = True := eq_true (by decide)
theorem clq240 : (nI 240).toNatClampNeg = 240 := nI_clamp (by omega)
theorem inq291 : (ip_in (nI 291) 65536 = true) = True := eq_true (by decide)
theorem clq291 : (nI 291).toNatClampNeg = 291 := nI_clamp (by omega)
theorem inq1000 : (ip_in (nI 1000) 65536 = true) = True := eq_true (by decide)
theorem clq1000 : (nI 1000).toNatClampNeg = 1000 := nI_clamp (by omega)
theorem inq1164 : (ip_in (nI 1164) 65536 = true) = True := eq_true (by decide)
theorem clq1164 : (nI 1164).toNatClampNeg = 1164 := nI_clamp (by omega)
theorem inq2000 : (ip_in (nI 2000) 65536 = true) = True := eq_true (by decide)
theorem clq2000 : (nI 2000).toNatClampNeg = 2000 := nI_clamp (by omega)
theorem inq4656 : (ip_in (nI 4656) 65536 = true) = True := eq_true (by decide)
theorem clq4656 : (nI 4656).toNatClampNeg = 4656 := nI_clamp (by omega)
theorem q171_4 (hv : vs.length = 50) (hl : t.length = n) : Wp L xs (d + 1) 171 4 [some (.ref (64 + p.length))] [] (p ++ .inr (11, vs) :: t, z) P = Wp L xs (d + 1) 171 13 [some (.ref (64 + p.length))] [] (p ++ .inr (11, vs.set 2 (.ref (64 + (p.length + (n + 1))))) :: (t ++ [.inl (0, 1000, .inl fun _ => 0)]), z + 1000) P := by
  rw [w171_4, w171_5, w171_8, inq1000, true_and, clq1000, w171_10, sf_ap (by omega) fit13, List.length_append, List.length_cons, hl]
theorem q171_13 (hv : vs.length = 50) (hl : t.length = n) : Wp L xs (d + 1) 171 13 [some (.ref (64 + p.length))] [] (p ++ .inr (11, vs) :: t, z) P = Wp L xs (d + 1) 171 21 [some (.ref (64 + p.length))] [] (p ++ .inr (11, vs.set 10 (.ref (64 + (p.length + (n + 1))))) :: (t ++ [.inl (0, 6, .inl fun _ => 0)]), z + 6) P := by
  rw [w171_13, w171_14, w171_16, inq6, true_and, clq6, w171_18, sf_ap (by omega) fit13, List.length_append, List.length_cons, hl]
theorem q171_21 (hv : vs.length = 50) (hl : t.length = n) : Wp L xs (d + 1) 171 21 [some (.ref (64 + p.length))] [] (p ++ .inr (11, vs) :: t, z) P = Wp L xs (d + 1) 171 29 [some (.ref (64 + p.length))] [] (p ++ .inr (11, vs.set 11 (.ref (64 + (p.length + (n + 1))))) :: (t ++ [.inl (1, 16, .inr (.inl fun _ => 0))]), z + 16) P := by
  rw [w171_21, w171_22, w171_24, inq16, true_and, clq16, w171_26, sf_ap (by omega) fit13, List.length_append, List.length_cons, hl]
theorem q171_29 (hv : vs.length = 50) (hl : t.length = n) : Wp L xs (d + 1) 171 29 [some (.ref (64 + p.length))] [] (p ++ .inr (11, vs) :: t, z) P = Wp L xs (d + 1) 171 37 [some (.ref (64 + p.length))] [] (p ++ .inr (11, vs.set 12 (.ref (64 + (p.length + (n + 1))))) :: (t ++ [.inl (0, 16, .inl fun _ => 0)]), z + 16) P := by
  rw [w171_29, w171_30, w171_32, inq16, true_and, clq16, w171_34, sf_ap (by omega) fit13, List.length_append, List.length_cons, hl]
theorem q171_37 (hv : vs.length = 50) (hl : t.length = n) : Wp L xs (d + 1) 171 37 [some (.ref (64 + p.length))] [] (p ++ .inr (11, vs) :: t, z) P = Wp L xs (d + 1) 171 45 [some (.ref (64 + p.length))] [] (p ++ .inr (11, vs.set 13 (.ref (64 + (p.length + (n + 1))))) :: (t ++ [.inl (0, 16, .inl fun _ => 0)]), z + 16) P := by
  rw [w171_37, w171_38, w171_40, inq16, true_and, clq16, w171_42, sf_ap (by omega) fit13, List.length_append, List.length_cons, hl]
theorem q171_45 (hv : vs.length = 50) (hl : t.length = n) : Wp L xs (d + 1) 171 45 [some (.ref (64 + p.length))] [] (p ++ .inr (11, vs) :: t, z) P = Wp L xs (d + 1) 171 53 [some (.ref (64 + p.length))] [] (p ++ .inr (11, vs.set 14 (.ref (64 + (p.length + (n + 1))))) :: (t ++ [.inl (0, 16, .inl fun _ => 0)]), z + 16) P := by
  rw [w171_45, w171_46, w171_48, inq16, true_and, clq16, w171_50, sf_ap (by omega) fit13, List.length_append, List.length_cons, hl]
theorem q171_53 (hv : vs.length = 50) (hl : t.length = n) : Wp L xs (d + 1) 171 53 [some (.ref (64 + p.length))] [] (p ++ .inr (11, vs) :: t, z) P = Wp L xs (d + 1) 171 61 [some (.ref (64 + p.length))] [] (p ++ .inr (11, vs.set 15 (.ref (64 + (p.length + (n + 1))))) :: (t ++ [.inl (0, 16, .inl fun _ => 0)]), z + 16) P := by
  rw [w171_53, w171_54, w171_56, inq16, true_and, clq16, w171_58, sf_ap (by omega) fit13, List.length_append, List.length_cons, hl]
theorem q171_61 (hv : vs.length = 50) (hl : t.length = n) : Wp L xs (d + 1) 171 61 [some (.ref (64 + p.length))] [] (p ++ .inr (11, vs) :: t, z) P = Wp L xs (d + 1) 171 68 [some (.ref (64 + p.length))] [] (p ++ .inr (11, vs.set 16 (.ref (64 + (p.length + (n + 1))))) :: (t ++ [.inl (0, 2, .inl fun _ => 0)]), z + 2) P := by
  rw [w171_61, w171_62, w171_63, inq2, true_and, clq2, w171_65, sf_ap (by omega) fit13, List.length_append, List.length_cons, hl]
theorem q171_68 (hv : vs.length = 50) (hl : t.length = n) : Wp L xs (d + 1) 171 68 [some (.ref (64 + p.length))] [] (p ++ .inr (11, vs) :: t, z) P = Wp L xs (d + 1) 171 75 [some (.ref (64 + p.length))] [] (p ++ .inr (11, vs.set 17 (.ref (64 + (p.length + (n + 1))))) :: (t ++ [.inl (0, 2, .inl fun _ => 0)]), z + 2) P := by
  rw [w171_68, w171_69, w171_70, inq2, true_and, clq2, w171_72, sf_ap (by omega) fit13, List.length_append, List.length_cons, hl]
theorem q171_75 (hv : vs.length = 50) (hl : t.length = n) : Wp L xs (d + 1) 171 75 [some (.ref (64 + p.length))] [] (p ++ .inr (11, vs) :: t, z) P = Wp L xs (d + 1) 171 84 [some (.ref (64 + p.length))] [] (p ++ .inr (11, vs.set 18 (.ref (64 + (p.length + (n + 1))))) :: (t ++ [.inl (0, 2000, .inl fun _ => 0)]), z + 2000) P := by
  rw [w171_75, w171_76, w171_79, inq2000, true_and, clq2000, w171_81, sf_ap (by omega) fit13, List.length_append, List.length_cons, hl]
theorem q171_84 (hv : vs.length = 50) (hl : t.length = n) : Wp L xs (d + 1) 171 84 [some (.ref (64 + p.length))] [] (p ++ .inr (11, vs) :: t, z) P = Wp L xs (d + 1) 171 92 [some (.ref (64 + p.length))] [] (p ++ .inr (11, vs.set 20 (.ref (64 + (p.length + (n + 1))))) :: (t ++ [.inl (0, 7, .inl fun _ => 0)]), z + 7) P := by
  rw [w171_84, w171_85, w171_87, inq7, true_and, clq7, w171_89, sf_ap (by omega) fit13, List.length_append, List.length_cons, hl]
theorem q171_92 (hv : vs.length = 50) (hl : t.length = n) : Wp L xs (d + 1) 171 92 [some (.ref (64 + p.length))] [] (p ++ .inr (11, vs) :: t, z) P = Wp L xs (d + 1) 171 100 [some (.ref (64 + p.length))] [] (p ++ .inr (11, vs.set 21 (.ref (64 + (p.length + (n + 1))))) :: (t ++ [.inl (3, 7, .inl fun _ => 0)]), z + 7) P := by
  rw [w171_92, w171_93, w171_95, inq7, true_and, clq7, w171_97, sf_ap (by omega) fit13, List.length_append, List.length_cons, hl]
theorem q171_100 (hv : vs.length = 50) (hl : t.length = n) : Wp L xs (d + 1) 171 100 [some (.ref (64 + p.length))] [] (p ++ .inr (11, vs) :: t, z) P = Wp L xs (d + 1) 171 108 [some (.ref (64 + p.length))] [] (p ++ .inr (11, vs.set 22 (.ref (64 + (p.length + (n + 1))))) :: (t ++ [.inl (0, 7, .inl fun _ => 0)]), z + 7) P := by
  rw [w171_100, w171_101, w171_103, inq7, true_and, clq7, w171_105, sf_ap (by omega) fit13, List.length_append, List.length_cons, hl]
theorem q171_108 (hv : vs.length = 50) (hl : t.length = n) : Wp L xs (d + 1) 171 108 [some (.ref (64 + p.length))] [] (p ++ .inr (11, vs) :: t, z) P = Wp L xs (d + 1) 171 116 [some (.ref (64 + p.length))] [] (p ++ .inr (11, vs.set 23 (.ref (64 + (p.length + (n + 1))))) :: (t ++ [.inl (0, 7, .inl fun _ => 0)]), z + 7) P := by
  rw [w171_108, w171_109, w171_111, inq7, true_and, clq7, w171_113, sf_ap (by omega) fit13, List.length_append, List.length_cons, hl]
theorem q171_116 (hv : vs.length = 50) (hl : t.length = n) : Wp L xs (d + 1) 171 116 [some (.ref (64 + p.length))] [] (p ++ .inr (11, vs) :: t, z) P = Wp L xs (d + 1) 171 124 [some (.ref (64 + p.length))] [] (p ++ .inr (11, vs.set 24 (.ref (64 + (p.length + (n + 1))))) :: (t ++ [.inl (0, 7, .inl fun _ => 0)]), z + 7) P := by
  rw [w171_116, w171_117, w171_119, inq7, true_and, clq7, w171_121, sf_ap (by omega) fit13, List.length_append, List.length_cons, hl]
theorem q171_124 (hv : vs.length = 50) (hl : t.length = n) : Wp L xs (d + 1) 171 124 [some (.ref (64 + p.length))] [] (p ++ .inr (11, vs) :: t, z) P = Wp L xs (d + 1) 171 132 [some (.ref (64 + p.length))] [] (p ++ .inr (11, vs.set 25 (.ref (64 + (p.length + (n + 1))))) :: (t ++ [.inl (0, 7, .inl fun _ => 0)]), z + 7) P := by
  rw [w171_124, w171_125, w171_127, inq7, true_and, clq7, w171_129, sf_ap (by omega) fit13, List.length_append, List.length_cons, hl]
theorem q171_132 (hv : vs.length = 50) (hl : t.length = n) : Wp L xs (d + 1) 171 132 [some (.ref (64 + p.length))] [] (p ++ .inr (11, vs) :: t, z) P = Wp L xs (d + 1) 171 140 [some (.ref (64 + p.length))] [] (p ++ .inr (11, vs.set 26 (.ref (64 + (p.length + (n + 1))))) :: (t ++ [.inl (0, 7, .inl fun _ => 0)]), z + 7) P := by
  rw [w171_132, w171_133, w171_135, inq7, true_and, clq7, w171_137, sf_ap (by omega) fit13, List.length_append, List.length_cons, hl]
theorem q171_140 (hv : vs.length = 50) (hl : t.length = n) : Wp L xs (d + 1) 171 140 [some (.ref (64 + p.length))] [] (p ++ .inr (11, vs) :: t, z) P = Wp L xs (d + 1) 171 148 [some (.ref (64 + p.length))] [] (p ++ .inr (11, vs.set 27 (.ref (64 + (p.length + (n + 1))))) :: (t ++ [.inl (0, 7, .inl fun _ => 0)]), z + 7) P := by
  rw [w171_140, w171_141, w171_143, inq7, true_and, clq7, w171_145, sf_ap (by omega) fit13, List.length_append, List.length_cons, hl]
theorem q171_148 (hv : vs.length = 50) (hl : t.length = n) : Wp L xs (d + 1) 171 148 [some (.ref (64 + p.length))] [] (p ++ .inr (11, vs) :: t, z) P = Wp L xs (d + 1) 171 156 [some (.ref (64 + p.length))] [] (p ++ .inr (11, vs.set 28 (.ref (64 + (p.length + (n + 1))))) :: (t ++ [.inl (0, 7, .inl fun _ => 0)]), z + 7) P := by
  rw [w171_148, w171_149, w171_151, inq7, true_and, clq7, w171_153, sf_ap (by omega) fit13, List.length_append, List.length_cons, hl]
theorem q171_156 (hv : vs.length = 50) (hl : t.length = n) : Wp L xs (d + 1) 171 156 [some (.ref (64 + p.length))] [] (p ++ .inr (11, vs) :: t, z) P = Wp L xs (d + 1) 171 164 [some (.ref (64 + p.length))] [] (p ++ .inr (11, vs.set 29 (.ref (64 + (p.length + (n + 1))))) :: (t ++ [.inl (0, 7, .inl fun _ => 0)]), z + 7) P := by
  rw [w171_156, w171_157, w171_159, inq7, true_and, clq7, w171_161, sf_ap (by omega) fit13, List.length_append, List.length_cons, hl]
theorem q171_164 (hv : vs.length = 50) (hl : t.length = n) : Wp L xs (d + 1) 171 164 [some (.ref (64 + p.length))] [] (p ++ .inr (11, vs) :: t, z) P = Wp L xs (d + 1) 171 172 [some (.ref (64 + p.length))] [] (p ++ .inr (11, vs.set 30 (.ref (64 + (p.length + (n + 1))))) :: (t ++ [.inl (0, 7, .inl fun _ => 0)]), z + 7) P := by
  rw [w171_164, w171_165, w171_167, inq7, true_and, clq7, w171_169, sf_ap (by omega) fit13, List.length_append, List.length_cons, hl]
theorem q171_172 (hv : vs.length = 50) (hl : t.length = n) : Wp L xs (d + 1) 171 172 [some (.ref (64 + p.length))] [] (p ++ .inr (11, vs) :: t, z) P = Wp L xs (d + 1) 171 180 [some (.ref (64 + p.length))] [] (p ++ .inr (11, vs.set 31 (.ref (64 + (p.length + (n + 1))))) :: (t ++ [.inl (0, 20, .inl fun _ => 0)]), z + 20) P := by
  rw [w171_172, w171_173, w171_175, inq20, true_and, clq20, w171_177, sf_ap (by omega) fit13, List.length_append, List.length_cons, hl]
theorem q171_180 (hv : vs.length = 50) (hl : t.length = n) : Wp L xs (d + 1) 171 180 [some (.ref (64 + p.length))] [] (p ++ .inr (11, vs) :: t, z) P = Wp L xs (d + 1) 171 188 [some (.ref (64 + p.length))] [] (p ++ .inr (11, vs.set 33 (.ref (64 + (p.length + (n + 1))))) :: (t ++ [.inl (0, 6, .inl fun _ => 0)]), z + 6) P := by
  rw [w171_180, w171_181, w171_183, inq6, true_and, clq6, w171_185, sf_ap (by omega) fit13, List.length_append, List.length_cons, hl]
theorem q171_188 (hv : vs.length = 50) (hl : t.length = n) : Wp L xs (d + 1) 171 188 [some (.ref (64 + p.length))] [] (p ++ .inr (11, vs) :: t, z) P = Wp L xs (d + 1) 171 197 [some (.ref (64 + p.length))] [] (p ++ .inr (11, vs.set 34 (.ref (64 + (p.length + (n + 1))))) :: (t ++ [.inl (0, 240, .inl fun _ => 0)]), z + 240) P := by
  rw [w171_188, w171_189, w171_192, inq240, true_and, clq240, w171_194, sf_ap (by omega) fit13, List.length_append, List.length_cons, hl]
theorem q171_197 (hv : vs.length = 50) (hl : t.length = n) : Wp L xs (d + 1) 171 197 [some (.ref (64 + p.length))] [] (p ++ .inr (11, vs) :: t, z) P = Wp L xs (d + 1) 171 206 [some (.ref (64 + p.length))] [] (p ++ .inr (11, vs.set 35 (.ref (64 + (p.length + (n + 1))))) :: (t ++ [.inl (0, 240, .inl fun _ => 0)]), z + 240) P := by
  rw [w171_197, w171_198, w171_201, inq240, true_and, clq240, w171_203, sf_ap (by omega) fit13, List.length_append, List.length_cons, hl]
theorem q171_206 (hv : vs.length = 50) (hl : t.length = n) : Wp L xs (d + 1) 171 206 [some (.ref (64 + p.length))] [] (p ++ .inr (11, vs) :: t, z) P = Wp L xs (d + 1) 171 215 [some (.ref (64 + p.length))] [] (p ++ .inr (11, vs.set 36 (.ref (64 + (p.length + (n + 1))))) :: (t ++ [.inl (0, 240, .inl fun _ => 0)]), z + 240) P := by
  rw [w171_206, w171_207, w171_210, inq240, true_and, clq240, w171_212, sf_ap (by omega) fit13, List.length_append, List.length_cons, hl]
theorem q171_215 (hv : vs.length = 50) (hl : t.length = n) : Wp L xs (d + 1) 171 215 [some (.ref (64 + p.length))] [] (p ++ .inr (11, vs) :: t, z) P = Wp L xs (d + 1) 171 222 [some (.ref (64 + p.length))] [] (p ++ .inr (11, vs.set 37 (.ref (64 + (p.length + (n + 1))))) :: (t ++ [.inl (0, 5, .inl fun _ => 0)]), z + 5) P := by
  rw [w171_215, w171_216, w171_217, inq5, true_and, clq5, w171_219, sf_ap (by omega) fit13, List.length_append, List.length_cons, hl]
theorem q171_222 (hv : vs.length = 50) (hl : t.length = n) : Wp L xs (d + 1) 171 222 [some (.ref (64 + p.length))] [] (p ++ .inr (11, vs) :: t, z) P = Wp L xs (d + 1) 171 230 [some (.ref (64 + p.length))] [] (p ++ .inr (11, vs.set 38 (.ref (64 + (p.length + (n + 1))))) :: (t ++ [.inl (0, 40, .inl fun _ => 0)]), z + 40) P := by
  rw [w171_222, w171_223, w171_225, inq40, true_and, clq40, w171_227, sf_ap (by omega) fit13, List.length_append, List.length_cons, hl]
theorem q171_230 (hv : vs.length = 50) (hl : t.length = n) : Wp L xs (d + 1) 171 230 [some (.ref (64 + p.length))] [] (p ++ .inr (11, vs) :: t, z) P = Wp L xs (d + 1) 171 238 [some (.ref (64 + p.length))] [] (p ++ .inr (11, vs.set 39 (.ref (64 + (p.length + (n + 1))))) :: (t ++ [.inl (0, 40, .inl fun _ => 0)]), z + 40) P := by
  rw [w171_230, w171_231, w171_233, inq40, true_and, clq40, w171_235, sf_ap (by omega) fit13, List.length_append, List.length_cons, hl]
theorem q171_238 (hv : vs.length = 50) (hl : t.length = n) : Wp L xs (d + 1) 171 238 [some (.ref (64 + p.length))] [] (p ++ .inr (11, vs) :: t, z) P = Wp L xs (d + 1) 171 246 [some (.ref (64 + p.length))] [] (p ++ .inr (11, vs.set 40 (.ref (64 + (p.length + (n + 1))))) :: (t ++ [.inl (3, 40, .inl fun _ => 0)]), z + 40) P := by
  rw [w171_238, w171_239, w171_241, inq40, true_and, clq40, w171_243, sf_ap (by omega) fit13, List.length_append, List.length_cons, hl]
theorem q171_246 (hv : vs.length = 50) (hl : t.length = n) : Wp L xs (d + 1) 171 246 [some (.ref (64 + p.length))] [] (p ++ .inr (11, vs) :: t, z) P = Wp L xs (d + 1) 171 255 [some (.ref (64 + p.length))] [] (p ++ .inr (11, vs.set 41 (.ref (64 + (p.length + (n + 1))))) :: (t ++ [.inl (0, 291, .inl fun _ => 0)]), z + 291) P := by
  rw [w171_246, w171_247, w171_250, inq291, true_and, clq291, w171_252, sf_ap (by omega) fit13, List.length_append, List.length_cons, hl]
theorem q171_255 (hv : vs.length = 50) (hl : t.length = n) : Wp L xs (d + 1) 171 255 [some (.ref (64 + p.length))] [] (p ++ .inr (11, vs) :: t, z) P = Wp L xs (d + 1) 171 264 [some (.ref (64 + p.length))] [] (p ++ .inr (11, vs.set 42 (.ref (64 + (p.length + (n + 1))))) :: (t ++ [.inl (0, 291, .inl fun _ => 0)]), z + 291) P := by
  rw [w171_255, w171_256, w171_259, inq291, true_and, clq291, w171_261, sf_ap (by omega) fit13, List.length_append, List.length_cons, hl]
theorem q171_264 (hv : vs.length = 50) (hl : t.length = n) : Wp L xs (d + 1) 171 264 [some (.ref (64 + p.length))] [] (p ++ .inr (11, vs) :: t, z) P = Wp L xs (d + 1) 171 273 [some (.ref (64 + p.length))] [] (p ++ .inr (11, vs.set 43 (.ref (64 + (p.length + (n + 1))))) :: (t ++ [.inl (0, 291, .inl fun _ => 0)]), z + 291) P := by
  rw [w171_264, w171_265, w171_268, inq291, true_and, clq291, w171_270, sf_ap (by omega) fit13, List.length_append, List.length_cons, hl]
theorem q171_273 (hv : vs.length = 50) (hl : t.length = n) : Wp L xs (d + 1) 171 273 [some (.ref (64 + p.length))] [] (p ++ .inr (11, vs) :: t, z) P = Wp L xs (d + 1) 171 282 [some (.ref (64 + p.length))] [] (p ++ .inr (11, vs.set 44 (.ref (64 + (p.length + (n + 1))))) :: (t ++ [.inl (0, 1164, .inl fun _ => 0)]), z + 1164) P := by
  rw [w171_273, w171_274, w171_277, inq1164, true_and, clq1164, w171_279, sf_ap (by omega) fit13, List.length_append, List.length_cons, hl]
theorem q171_282 (hv : vs.length = 50) (hl : t.length = n) : Wp L xs (d + 1) 171 282 [some (.ref (64 + p.length))] [] (p ++ .inr (11, vs) :: t, z) P = Wp L xs (d + 1) 171 291 [some (.ref (64 + p.length))] [] (p ++ .inr (11, vs.set 45 (.ref (64 + (p.length + (n + 1))))) :: (t ++ [.inl (0, 4656, .inl fun _ => 0)]), z + 4656) P := by
  rw [w171_282, w171_283, w171_286, inq4656, true_and, clq4656, w171_288, sf_ap (by omega) fit13, List.length_append, List.length_cons, hl]
theorem q171_291 (hv : vs.length = 50) (hl : t.length = n) : Wp L xs (d + 1) 171 291 [some (.ref (64 + p.length))] [] (p ++ .inr (11, vs) :: t, z) P = Wp L xs (d + 1) 171 298 [some (.ref (64 + p.length))] [] (p ++ .inr (11, vs.set 46 (.ref (64 + (p.length + (n + 1))))) :: (t ++ [.inl (3, 4, .inl fun _ => 0)]), z + 4) P := by
  rw [w171_291, w171_292, w171_293, inq4, true_and, clq4, w171_295, sf_ap (by omega) fit13, List.length_append, List.length_cons, hl]
theorem q171_298 (hv : vs.length = 50) (hl : t.length = n) : Wp L xs (d + 1) 171 298 [some (.ref (64 + p.length))] [] (p ++ .inr (11, vs) :: t, z) P = Wp L xs (d + 1) 171 306 [some (.ref (64 + p.length))] [] (p ++ .inr (11, vs.set 48 (.ref (64 + (p.length + (n + 1))))) :: (t ++ [.inl (0, 8, .inl fun _ => 0)]), z + 8) P := by
  rw [w171_298, w171_299, w171_301, inq8, true_and, clq8, w171_303, sf_ap (by omega) fit13, List.length_append, List.length_cons, hl]
def v171 : List Value := [.int 0, .int 0, .ref 421, .int 0, .int 0, .int 0, .int 0, .long 0, .int 0, .int 0, .ref 422, .ref 423, .ref 424, .ref 425, .ref 426, .ref 427, .ref 428, .ref 429, .ref 430, .int 0, .ref 431, .ref 432, .ref 433, .ref 434, .ref 435, .ref 436, .ref 437, .ref 438, .ref 439, .ref 440, .ref 441, .ref 442, .int 0, .ref 443, .ref 444, .ref 445, .ref 446, .ref 447, .ref 448, .ref 449, .ref 450, .ref 451, .ref 452, .ref 453, .ref 454, .ref 455, .ref 456, .int 0, .ref 457, .long 0]
def t171a : List AC := [.inl (0, 1000, .inl fun _ => 0), .inl (0, 6, .inl fun _ => 0), .inl (1, 16, .inr (.inl fun _ => 0)), .inl (0, 16, .inl fun _ => 0), .inl (0, 16, .inl fun _ => 0), .inl (0, 16, .inl fun _ => 0), .inl (0, 16, .inl fun _ => 0), .inl (0, 2, .inl fun _ => 0), .inl (0, 2, .inl fun _ => 0), .inl (0, 2000, .inl fun _ => 0), .inl (0, 7, .inl fun _ => 0), .inl (3, 7, .inl fun _ => 0), .inl (0, 7, .inl fun _ => 0), .inl (0, 7, .inl fun _ => 0), .inl (0, 7, .inl fun _ => 0), .inl (0, 7, .inl fun _ => 0), .inl (0, 7, .inl fun _ => 0), .inl (0, 7, .inl fun _ => 0), .inl (0, 7, .inl fun _ => 0), .inl (0, 7, .inl fun _ => 0), .inl (0, 7, .inl fun _ => 0), .inl (0, 20, .inl fun _ => 0), .inl (0, 6, .inl fun _ => 0), .inl (0, 240, .inl fun _ => 0), .inl (0, 240, .inl fun _ => 0), .inl (0, 240, .inl fun _ => 0), .inl (0, 5, .inl fun _ => 0), .inl (0, 40, .inl fun _ => 0), .inl (0, 40, .inl fun _ => 0), .inl (3, 40, .inl fun _ => 0)]
def t171b : List AC := [.inl (0, 291, .inl fun _ => 0), .inl (0, 291, .inl fun _ => 0), .inl (0, 1164, .inl fun _ => 0), .inl (0, 4656, .inl fun _ => 0), .inl (3, 4, .inl fun _ => 0), .inl (0, 8, .inl fun _ => 0)]
theorem k_i171a (hp : p.length = 356) : Wp L xs (d + 1) 171 0 [some (.ref (64 + p.length))] [] (p ++ [.inr (11, [.int 0, .int 0, .null, .int 0, .int 0, .int 0, .int 0, .long 0, .int 0, .int 0, .null, .null, .null, .null, .null, .null, .null, .null, .null, .int 0, .null, .null, .null, .null, .null, .null, .null, .null, .null, .null, .null, .null, .int 0, .null, .null, .null, .null, .null, .null, .null, .null, .null, .null, .null, .null, .null, .null, .int 0, .null, .long 0])], z) P = Wp L xs (d + 1) 171 306 [some (.ref (64 + p.length))] [] ((p ++ .inr (11, v171) :: t171a) ++ .inl (0, 291, .inl fun _ => 0) :: t171b, z + 10743) P := by
  rw [w171_0, w171_1, q171_4 (n := 0) (by simp) (by simp), q171_13 (n := 1) (by simp) (by simp), q171_21 (n := 2) (by simp) (by simp), q171_29 (n := 3) (by simp) (by simp), q171_37 (n := 4) (by simp) (by simp), q171_45 (n := 5) (by simp) (by simp), q171_53 (n := 6) (by simp) (by simp), q171_61 (n := 7) (by simp) (by simp), q171_68 (n := 8) (by simp) (by simp), q171_75 (n := 9) (by simp) (by simp), q171_84 (n := 10) (by simp) (by simp), q171_92 (n := 11) (by simp) (by simp), q171_100 (n := 12) (by simp) (by simp), q171_108 (n := 13) (by simp) (by simp), q171_116 (n := 14) (by simp) (by simp), q171_124 (n := 15) (by simp) (by simp), q171_132 (n := 16) (by simp) (by simp), q171_140 (n := 17) (by simp) (by simp), q171_148 (n := 18) (by simp) (by simp), q171_156 (n := 19) (by simp) (by simp), q171_164 (n := 20) (by simp) (by simp), q171_172 (n := 21) (by simp) (by simp), q171_180 (n := 22) (by simp) (by simp), q171_188 (n := 23) (by simp) (by simp), q171_197 (n := 24) (by simp) (by simp), q171_206 (n := 25) (by simp) (by simp), q171_215 (n := 26) (by simp) (by simp), q171_222 (n := 27) (by simp) (by simp), q171_230 (n := 28) (by simp) (by simp), q171_238 (n := 29) (by simp) (by simp), q171_246 (n := 30) (by simp) (by simp), q171_255 (n := 31) (by simp) (by simp), q171_264 (n := 32) (by simp) (by simp), q171_273 (n := 33) (by simp) (by simp), q171_282 (n := 34) (by simp) (by simp), q171_291 (n := 35) (by simp) (by simp), q171_298 (n := 36) (by simp) (by simp)]
  unfold v171 t171a t171b
  simp only [hp, List.append_assoc, List.cons_append, List.nil_append, List.set_cons_succ, List.set_cons_zero, Nat.reduceAdd, Nat.add_assoc]
theorem ar_at {q : Nat × vp_A} : ip_arr (p ++ .inl q :: t, z) (64 + p.length) = some q := by
  unfold ip_arr
  rw [if_neg (by omega), show 64 + p.length - 64 = p.length by omega]
  dsimp only
  rw [List.getElem?_append_right (Nat.le_refl _), Nat.sub_self]
  rfl
theorem si_at {f : Nat → Int32} {x : Int32} (ha : a = 64 + p.length) (hi : i < n) (hn : n ≤ 1000) : si (p ++ .inl (0, n, .inl f) :: t, z) 0 a (nI i) x K = K (p ++ .inl (0, n, .inl (upd f i x)) :: t, z) := by
  subst ha
  have e2 : ∀ q, ip_put (p ++ .inl (0, n, .inl f) :: t, z) (64 + p.length) q = (p ++ q :: t, z) := by
    intro q
    unfold ip_put
    rw [show 64 + p.length - 64 = p.length by omega]
    dsimp only
    rw [List.set_append_right _ _ (Nat.le_refl _), Nat.sub_self]
    rfl
  have hin : ip_in (nI i) n = true := by
    unfold ip_in
    simp
    exact ⟨by rw [show (0 : Int32) = nI 0 from rfl]; exact of_eq_true (leT (by omega) (by omega)), by rw [nI_clamp (by omega)]; omega⟩
  unfold si
  rw [ar_at]
  dsimp only
  rw [e2, nI_clamp (by omega)]
  exact propext ⟨fun q => q.2.2, fun q => ⟨rfl, hin, q⟩⟩
theorem gi_at {h : Hp} {f : Nat → Int32} {K : Int32 → Prop} (h1 : ip_arr h a = some (0, n, .inl f)) (ha : 34 ≤ a) (hi : i < n) (hn : n ≤ 1000) : gi L xs h 0 a (nI i) K = K (f i) := by
  have hin : ip_in (nI i) n = true := by
    unfold ip_in
    simp
    exact ⟨by rw [show (0 : Int32) = nI 0 from rfl]; exact of_eq_true (leT (by omega) (by omega)), by rw [nI_clamp (by omega)]; omega⟩
  unfold gi
  rw [if_neg (by omega), if_neg (by omega), h1]
  dsimp only
  rw [nI_clamp (by omega)]
  exact propext ⟨fun q => q.2.2, fun q => ⟨rfl, hin, q⟩⟩
def zf (i : Nat) : Nat → Int32 := fun k => if k < i then (if 160 ≤ k ∧ k < 200 then -1 else nI 0) else nI 0
theorem zf_up {x : Int32} (hx : x = if 160 ≤ i ∧ i < 200 then -1 else nI 0) : upd (zf i) i x = zf (i + 1) := by
  funext k
  by_cases h : k = i
  · subst h; rw [upd_eq, hx]; unfold zf; rw [if_pos (show k < k + 1 by omega)]
  · rw [upd_ne h]; unfold zf
    by_cases h2 : k < i
    · rw [if_pos h2, if_pos (show k < i + 1 by omega)]
    · rw [if_neg h2, if_neg (show ¬ k < i + 1 by omega)]
theorem fr207 {A u : List AC} (hA : 64 + (p ++ .inr (11, vs) :: A).length = b) (h41 : vs[41]? = some (.ref b)) (n : Nat) : ∀ i z, i + n = 291 → Wp L xs d 207 2 [some (.ref (64 + p.length)), some (.int (nI i))] [] ((p ++ .inr (11, vs) :: A) ++ .inl (0, 291, .inl (zf i)) :: u, z) P = Wp L xs d 207 40 [some (.ref (64 + p.length)), some (.int (nI 291))] [] ((p ++ .inr (11, vs) :: A) ++ .inl (0, 291, .inl (zf 291)) :: u, z) P := by
  induction n with
  | zero =>
    intro i z hi
    obtain rfl : i = 291 := by omega
    rw [w207_2, w207_3, w207_6, if_pos (of_eq_true (leT (by omega) (by omega)))]
  | succ n ih =>
    intro i z hi
    rw [w207_2, w207_3, w207_6, if_neg (fun q => absurd q (by rw [leF (by omega) (by omega)]; exact id)), w207_9, w207_10, gf_ap h41, w207_13, w207_14, w207_15, w207_18]
    by_cases h1 : i < 160
    · rw [if_pos (of_eq_true (ltT (by omega) (by omega))), w207_32, w207_33, si_at (i := i) (n := 291) hA.symm (by omega) (by omega), zf_up (by rw [if_neg (by omega)]), w207_34, frT2, true_and, w207_37, nI_add]
      exact ih (i + 1) z (by omega)
    · rw [if_neg (fun q => absurd q (by rw [ltF (by omega) (by omega)]; exact id)), w207_21, w207_22, w207_25]
      by_cases h2 : i < 200
      · rw [if_neg (fun q => absurd q (by rw [leF (by omega) (by omega)]; exact id)), w207_28, w207_29, w207_33, si_at (i := i) (n := 291) hA.symm (by omega) (by omega), zf_up (by rw [if_pos (by omega)]), w207_34, frT2, true_and, w207_37, nI_add]
        exact ih (i + 1) z (by omega)
      · rw [if_pos (of_eq_true (leT (by omega) (by omega))), w207_32, w207_33, si_at (i := i) (n := 291) hA.symm (by omega) (by omega), zf_up (by rw [if_neg (by omega)]), w207_34, frT2, true_and, w207_37, nI_add]
        exact ih (i + 1) z (by omega)
theorem zf_0 : (fun _ => 0 : Nat → Int32) = zf 0 := by
  funext k; unfold zf; rw [if_neg (by omega)]; rfl
theorem zf_289 : upd (zf 291) 289 (nI 0) = zf 291 := by
  funext k
  by_cases h : k = 289
  · subst h; rw [upd_eq]; unfold zf; rw [if_pos (by omega), if_neg (by omega)]
  · rw [upd_ne h]
theorem fr0 {A u : List AC} (hA : 64 + (p ++ .inr (11, vs) :: A).length = b) (h41 : vs[41]? = some (.ref b)) (h10 : vs[10]? = some (.ref a)) (ha : 34 ≤ a) (hC : ∀ f z, ip_arr ((p ++ .inr (11, vs) :: A) ++ .inl (0, 291, .inl f) :: u, z) a = some (0, 6, .inl fun _ => 0)) : Wp L xs d 207 0 [some (.ref (64 + p.length)), none] [] ((p ++ .inr (11, vs) :: A) ++ .inl (0, 291, .inl fun _ => 0) :: u, z) P = P none ((p ++ .inr (11, vs) :: A) ++ .inl (0, 291, .inl (zf 291)) :: u, z) := by
  rw [w207_0, w207_1, frT2, true_and, zf_0, fr207 hA h41 291 0 z rfl, w207_40, w207_41, frT2, true_and, w207_42, w207_43, w207_44, gf_ap h10, w207_47, w207_48, gi_at (i := 2) (n := 6) (hC _ _) ha (by omega) (by omega), w207_49, if_pos (show (0 : Int32) ≤ nI 0 by decide), w207_74, w207_75, gf_ap h41, w207_78, w207_81, w207_82, w207_83, gf_ap h10, w207_86, w207_87, gi_at (i := 0) (n := 6) (hC _ _) ha (by omega) (by omega), w207_88, w207_89, w207_90, w207_91, show nI 1 <<< ((0 : Int32) &&& nI 31) - nI 1 = nI 0 by decide, si_at (i := 289) (n := 291) hA.symm (by omega) (by omega), zf_289, w207_92]
theorem k_i171 (hp : p.length = 356) : Wp L xs (d + 1) 171 0 [some (.ref (64 + p.length))] [] (p ++ [.inr (11, [.int 0, .int 0, .null, .int 0, .int 0, .int 0, .int 0, .long 0, .int 0, .int 0, .null, .null, .null, .null, .null, .null, .null, .null, .null, .int 0, .null, .null, .null, .null, .null, .null, .null, .null, .null, .null, .null, .null, .int 0, .null, .null, .null, .null, .null, .null, .null, .null, .null, .null, .null, .null, .null, .null, .int 0, .null, .long 0])], z) P = P none ((p ++ .inr (11, v171) :: t171a) ++ .inl (0, 291, .inl (zf 291)) :: t171b, z + 10743) := by
  rw [k_i171a hp, w171_306, w171_307]
  have hrc : (ip_rc ((p ++ .inr (11, v171) :: t171a) ++ .inl (0, 291, .inl fun _ => 0) :: t171b, z + 10743) 11 [.ref (64 + p.length)] = true) = True := by
    unfold ip_rc
    dsimp only
    rw [if_neg (show ¬ (64 + p.length = 32) by omega), List.append_assoc, List.cons_append, ob_at]
    simp
  rw [hrc, true_and, fr0 (b := 451) (a := 422) (by rw [List.length_append, List.length_cons, hp]; rfl) rfl rfl (by omega), kc_n, w171_310]
  intro f z
  have e : (p ++ .inr (11, v171) :: t171a) ++ .inl (0, 291, .inl f) :: t171b = (p ++ [.inr (11, v171), .inl (0, 1000, .inl fun _ => 0)]) ++ .inl (0, 6, .inl fun _ => 0) :: (t171a.drop 2 ++ .inl (0, 291, .inl f) :: t171b) := by
    rw [List.append_assoc, List.append_assoc]
    rfl
  rw [e, show (422 : Nat) = 64 + (p ++ [.inr (11, v171), .inl (0, 1000, .inl fun _ => 0)] : List AC).length by rw [List.length_append, hp]; rfl]
  exact ar_at
end P9
