/-! THE CALLS THAT ONLY READ -/
def isR (n : Nat) (x : Int32) : Bool := decide (nI 0 ≤ x) && decide (x < nI n)
section E0
variable {L : Nat} {xs : Nat → Int32} {d : Nat} {P : Option Value → Hp → Prop} {I : Mi} {J : Mj} {R : Mr} {Z : Mz} {r c k l N M o n B : Nat} {x y z : Int32} {V : Vw}
theorem isR_t (h : isR n x = true) (hn : n < 2147483648) : ∃ j, j < n ∧ x = nI j := by
  unfold isR at h
  rw [Bool.and_eq_true, decide_eq_true_eq, decide_eq_true_eq] at h
  rcases pk_ix x hn with h1 | h1 | h1
  · exact absurd h1 (Int32.not_lt.mpr h.1)
  · exact absurd h1 (Int32.not_le.mpr h.2)
  · exact h1
theorem isR_nI (h : c < n) (hn : n < 2147483648) : isR n (nI c) = true := by
  unfold isR
  rw [Bool.and_eq_true, decide_eq_true_eq, decide_eq_true_eq]
  exact ⟨nI_le (by omega) (by omega), nI_lt h hn⟩
theorem k_isReplica (hN : I 76 0 = nI N) : Wp L xs d 161 0 [some (.ref (64)), some (.int (x))] [] (mk I J R Z) P = P (some (.int (bI (isR N x)))) (mk I J R Z) := by
  simp (discharger := omega) only [↓w161_0, ↓w161_1, ↓w161_4, ↓w161_5, ↓w161_6, ↓w161_9, ↓w161_12, ↓w161_15, ↓w161_16, ↓w161_19, ↓w161_20, rc64, g64_0, g64_1, g64_2, g64_3, g64_4, g64_5, g64_6, g64_7, g64_8, g64_9, g64_10, g64_11, g64_12, rc76, g76_0, p76_0, g76_1, p76_1, g76_2, p76_2, g76_3, g76_4, g76_5, g76_6, g76_7, g76_8, hN, mul8, mul8', mul4, mul4', nI_add, inT, nclN, ltT, ltF, leT, leF, eqT, eqF, nzF, m1F, m1T, shr, shg, bI0, bI1, bo_bI, bo_1, bo_0, eq10, eq00, frT1, frT2, frT3, fit0, fit1, fit2, fit3, true_and, and_true, ↓reduceIte, Nat.reduceAdd, Nat.reduceMul, and_self, not_false_eq_true, not_true_eq_false, Nat.zero_add, Nat.add_zero]
  unfold isR
  by_cases h1 : x < nI 0
  · simp [h1, Int32.not_le.mpr h1, bI, bo_0]
  · by_cases h2 : nI N ≤ x
    · simp [h1, h2, Int32.not_lt.mpr h2, bI, bo_0]
    · simp [h1, h2, Int32.not_lt.mp h1, Int32.not_le.mp h2, bI, bo_1]
theorem k_isCommand (hM : I 76 2 = nI M) : Wp L xs d 162 0 [some (.ref (64)), some (.int (x))] [] (mk I J R Z) P = P (some (.int (bI (isR M x)))) (mk I J R Z) := by
  simp (discharger := omega) only [↓w162_0, ↓w162_1, ↓w162_4, ↓w162_5, ↓w162_6, ↓w162_9, ↓w162_12, ↓w162_15, ↓w162_16, ↓w162_19, ↓w162_20, rc64, g64_0, g64_1, g64_2, g64_3, g64_4, g64_5, g64_6, g64_7, g64_8, g64_9, g64_10, g64_11, g64_12, rc76, g76_0, p76_0, g76_1, p76_1, g76_2, p76_2, g76_3, g76_4, g76_5, g76_6, g76_7, g76_8, hM, mul8, mul8', mul4, mul4', nI_add, inT, nclN, ltT, ltF, leT, leF, eqT, eqF, nzF, m1F, m1T, shr, shg, bI0, bI1, bo_bI, bo_1, bo_0, eq10, eq00, frT1, frT2, frT3, fit0, fit1, fit2, fit3, true_and, and_true, ↓reduceIte, Nat.reduceAdd, Nat.reduceMul, and_self, not_false_eq_true, not_true_eq_false, Nat.zero_add, Nat.add_zero]
  unfold isR
  by_cases h1 : x < nI 0
  · simp [h1, Int32.not_le.mpr h1, bI, bo_0]
  · by_cases h2 : nI M ≤ x
    · simp [h1, h2, Int32.not_lt.mpr h2, bI, bo_0]
    · simp [h1, h2, Int32.not_lt.mp h1, Int32.not_le.mp h2, bI, bo_1]
theorem m_isReplica (hN : I 422 0 = nI N) : Wp L xs d 213 0 [some (.ref (420)), some (.int (x))] [] (mk I J R Z) P = P (some (.int (bI (isR N x)))) (mk I J R Z) := by
  simp (discharger := omega) only [↓w213_0, ↓w213_1, ↓w213_4, ↓w213_5, ↓w213_6, ↓w213_9, ↓w213_10, ↓w213_11, ↓w213_14, ↓w213_15, ↓w213_18, ↓w213_19, rc420, g420_0, p420_0, g420_1, p420_1, g420_2, g420_3, p420_3, g420_4, p420_4, g420_5, p420_5, g420_6, p420_6, g420_7, p420_7, g420_8, p420_8, g420_9, p420_9, g420_10, g420_11, g420_12, g420_13, g420_14, g420_15, g420_16, g420_17, g420_18, g420_19, p420_19, g420_20, g420_21, g420_22, g420_23, g420_24, g420_25, g420_26, g420_27, g420_28, g420_29, g420_30, g420_31, g420_32, p420_32, g420_33, g420_34, g420_35, g420_36, g420_37, g420_38, g420_39, g420_40, g420_41, g420_42, g420_43, g420_44, g420_45, g420_46, g420_47, p420_47, g420_48, g420_49, p420_49, gi422, si422, hN, mul8, mul8', mul4, mul4', nI_add, inT, nclN, ltT, ltF, leT, leF, eqT, eqF, nzF, m1F, m1T, shr, shg, bI0, bI1, bo_bI, bo_1, bo_0, eq10, eq00, frT1, frT2, frT3, fit0, fit1, fit2, fit3, true_and, and_true, ↓reduceIte, Nat.reduceAdd, Nat.reduceMul, and_self, not_false_eq_true, not_true_eq_false, Nat.zero_add, Nat.add_zero]
  unfold isR
  by_cases h1 : x < nI 0
  · simp [h1, Int32.not_le.mpr h1, bI, bo_0]
  · by_cases h2 : nI N ≤ x
    · simp [h1, h2, Int32.not_lt.mpr h2, bI, bo_0]
    · simp [h1, h2, Int32.not_lt.mp h1, Int32.not_le.mp h2, bI, bo_1]
theorem m_isCommand (hM : I 422 2 = nI M) : Wp L xs d 212 0 [some (.ref (420)), some (.int (x))] [] (mk I J R Z) P = P (some (.int (bI (isR M x)))) (mk I J R Z) := by
  simp (discharger := omega) only [↓w212_0, ↓w212_1, ↓w212_4, ↓w212_5, ↓w212_6, ↓w212_9, ↓w212_10, ↓w212_11, ↓w212_14, ↓w212_15, ↓w212_18, ↓w212_19, rc420, g420_0, p420_0, g420_1, p420_1, g420_2, g420_3, p420_3, g420_4, p420_4, g420_5, p420_5, g420_6, p420_6, g420_7, p420_7, g420_8, p420_8, g420_9, p420_9, g420_10, g420_11, g420_12, g420_13, g420_14, g420_15, g420_16, g420_17, g420_18, g420_19, p420_19, g420_20, g420_21, g420_22, g420_23, g420_24, g420_25, g420_26, g420_27, g420_28, g420_29, g420_30, g420_31, g420_32, p420_32, g420_33, g420_34, g420_35, g420_36, g420_37, g420_38, g420_39, g420_40, g420_41, g420_42, g420_43, g420_44, g420_45, g420_46, g420_47, p420_47, g420_48, g420_49, p420_49, gi422, si422, hM, mul8, mul8', mul4, mul4', nI_add, inT, nclN, ltT, ltF, leT, leF, eqT, eqF, nzF, m1F, m1T, shr, shg, bI0, bI1, bo_bI, bo_1, bo_0, eq10, eq00, frT1, frT2, frT3, fit0, fit1, fit2, fit3, true_and, and_true, ↓reduceIte, Nat.reduceAdd, Nat.reduceMul, and_self, not_false_eq_true, not_true_eq_false, Nat.zero_add, Nat.add_zero]
  unfold isR
  by_cases h1 : x < nI 0
  · simp [h1, Int32.not_le.mpr h1, bI, bo_0]
  · by_cases h2 : nI M ≤ x
    · simp [h1, h2, Int32.not_lt.mpr h2, bI, bo_0]
    · simp [h1, h2, Int32.not_lt.mp h1, Int32.not_le.mp h2, bI, bo_1]
/-- what COMMAND answers -/
def vCom (G : Gv) (V : Vw) (x y : Int32) : Int32 := if isR (gM G) x = true then (fun c => if y = nI 0 then G 1 c else if y = nI 1 then G 2 c else if y = nI 2 then G 3 c else if y = nI 3 then G 4 c else if y = nI 4 then V 9 c else if y = nI 5 then V 10 c else if y = nI 6 then V 11 c else if y = nI 7 then bI (tb (V 0 1) c) else -1) x.toNatClampNeg else -1
theorem k_command (hG : okG (gI I)) : Wp L xs (d+1) 118 0 [some (.ref (64)), some (.int (x)), some (.int (y))] [] (mk I J R Z) P = P (some (.int (vCom (gI I) (vw I 102) x y))) (mk I J R Z) := by
  have hM : I 76 2 = nI (gM (gI I)) := hG.2.1.1
  have h8 := hG.2.1.2
  unfold vCom
  by_cases hx : isR (gM (gI I)) x = true
  · rw [if_pos hx]
    obtain ⟨c, hc, rfl⟩ := isR_t hx (by omega)
    rw [nI_clamp (by omega)]
    simp (discharger := omega) only [↓w118_0, ↓w118_1, ↓w118_2, ↓w118_5, ↓w118_8, ↓w118_9, ↓w118_10, ↓w118_11, ↓w118_56, ↓w118_57, ↓w118_60, ↓w118_63, ↓w118_64, ↓w118_65, ↓w118_66, ↓w118_67, ↓w118_70, ↓w118_73, ↓w118_74, ↓w118_75, ↓w118_76, ↓w118_77, ↓w118_80, ↓w118_83, ↓w118_84, ↓w118_85, ↓w118_86, ↓w118_87, ↓w118_90, ↓w118_93, ↓w118_94, ↓w118_95, ↓w118_96, ↓w118_97, ↓w118_100, ↓w118_103, ↓w118_104, ↓w118_105, ↓w118_106, ↓w118_107, ↓w118_110, ↓w118_113, ↓w118_114, ↓w118_115, ↓w118_116, ↓w118_117, ↓w118_120, ↓w118_123, ↓w118_124, ↓w118_125, ↓w118_126, ↓w118_127, ↓w118_130, ↓w118_133, ↓w118_134, ↓w118_135, ↓w118_136, ↓w118_137, ↓w118_138, ↓w118_139, ↓k_isCommand hM, hx, bI_t, ↓kc_i, ↓kc_l, ↓kc_r, ↓kc_n, rc64, g64_0, g64_1, g64_2, g64_3, g64_4, g64_5, g64_6, g64_7, g64_8, g64_9, g64_10, g64_11, g64_12, rc76, g76_0, p76_0, g76_1, p76_1, g76_2, p76_2, g76_3, g76_4, g76_5, g76_6, g76_7, g76_8, gi77, si77, gi78, si78, gi79, si79, gi80, si80, rc102, g102_0, p102_0, g102_1, p102_1, g102_2, g102_3, g102_4, g102_5, g102_6, g102_7, g102_8, g102_9, g102_10, g102_11, g102_12, gi111, si111, gi112, si112, gi113, si113, mul8, mul8', mul4, mul4', nI_add, inT, nclN, ltT, ltF, leT, leF, eqT, eqF, nzF, m1F, m1T, shr, shg, bI0, bI1, bo_bI, bo_1, bo_0, eq10, eq00, frT1, frT2, frT3, fit0, fit1, fit2, fit3, true_and, and_true, ↓reduceIte, Nat.reduceAdd, Nat.reduceMul, and_self, not_false_eq_true, not_true_eq_false, Nat.zero_add, Nat.add_zero]
    show _ = P (some (.int (if y = nI 0 then I 77 c else if y = nI 1 then I 78 c else if y = nI 2 then I 79 c else if y = nI 3 then I 80 c else if y = nI 4 then I 111 c else if y = nI 5 then I 112 c else if y = nI 6 then I 113 c else if y = nI 7 then bI (tb (I 102 1) c) else -1))) (mk I J R Z)
    repeat' (first | rfl | split)
  · have hx' := Bool.eq_false_iff.mpr hx
    rw [if_neg hx]
    simp (discharger := omega) only [↓w118_0, ↓w118_1, ↓w118_2, ↓w118_5, ↓w118_8, ↓w118_9, ↓w118_10, ↓w118_11, ↓w118_56, ↓w118_57, ↓w118_60, ↓w118_63, ↓w118_64, ↓w118_65, ↓w118_66, ↓w118_67, ↓w118_70, ↓w118_73, ↓w118_74, ↓w118_75, ↓w118_76, ↓w118_77, ↓w118_80, ↓w118_83, ↓w118_84, ↓w118_85, ↓w118_86, ↓w118_87, ↓w118_90, ↓w118_93, ↓w118_94, ↓w118_95, ↓w118_96, ↓w118_97, ↓w118_100, ↓w118_103, ↓w118_104, ↓w118_105, ↓w118_106, ↓w118_107, ↓w118_110, ↓w118_113, ↓w118_114, ↓w118_115, ↓w118_116, ↓w118_117, ↓w118_120, ↓w118_123, ↓w118_124, ↓w118_125, ↓w118_126, ↓w118_127, ↓w118_130, ↓w118_133, ↓w118_134, ↓w118_135, ↓w118_136, ↓w118_137, ↓w118_138, ↓w118_139, ↓k_isCommand hM, hx', bI_f, ↓kc_i, ↓kc_l, ↓kc_r, ↓kc_n, rc64, g64_0, g64_1, g64_2, g64_3, g64_4, g64_5, g64_6, g64_7, g64_8, g64_9, g64_10, g64_11, g64_12, mul8, mul8', mul4, mul4', nI_add, inT, nclN, ltT, ltF, leT, leF, eqT, eqF, nzF, m1F, m1T, shr, shg, bI0, bI1, bo_bI, bo_1, bo_0, eq10, eq00, frT1, frT2, frT3, fit0, fit1, fit2, fit3, true_and, and_true, ↓reduceIte, Nat.reduceAdd, Nat.reduceMul, and_self, not_false_eq_true, not_true_eq_false, Nat.zero_add, Nat.add_zero]
def vKno (G : Gv) (V : Vw) (x y z : Int32) : Int32 := if isR (gN G) x = true ∧ isR (gM G) y = true then (fun q => if z = nI 0 then V 1 q else if z = nI 1 then V 2 q else if z = nI 2 then V 3 q else if z = nI 3 then V 4 q else -1) (8 * x.toNatClampNeg + y.toNatClampNeg) else -1
theorem k_known (hG : okG (gI I)) : Wp L xs (d+1) 119 0 [some (.ref (64)), some (.int (x)), some (.int (y)), some (.int (z)), none] [] (mk I J R Z) P = P (some (.int (vKno (gI I) (vw I 102) x y z))) (mk I J R Z) := by
  have hN : I 76 0 = nI (gN (gI I)) := hG.1.1
  have hM : I 76 2 = nI (gM (gI I)) := hG.2.1.1
  have h5 := hG.1.2
  have h8 := hG.2.1.2
  unfold vKno
  by_cases hx : isR (gN (gI I)) x = true
  · by_cases hy : isR (gM (gI I)) y = true
    · rw [if_pos ⟨hx, hy⟩]
      obtain ⟨r, hr, rfl⟩ := isR_t hx (by omega)
      obtain ⟨c, hc, rfl⟩ := isR_t hy (by omega)
      rw [nI_clamp (by omega), nI_clamp (by omega)]
      simp (discharger := omega) only [↓w119_0, ↓w119_1, ↓w119_2, ↓w119_5, ↓w119_8, ↓w119_9, ↓w119_10, ↓w119_13, ↓w119_16, ↓w119_17, ↓w119_18, ↓w119_19, ↓w119_20, ↓w119_23, ↓w119_25, ↓w119_26, ↓w119_56, ↓w119_57, ↓w119_60, ↓w119_63, ↓w119_65, ↓w119_66, ↓w119_67, ↓w119_68, ↓w119_71, ↓w119_74, ↓w119_76, ↓w119_77, ↓w119_78, ↓w119_79, ↓w119_82, ↓w119_85, ↓w119_87, ↓w119_88, ↓w119_89, ↓w119_90, ↓w119_93, ↓w119_96, ↓w119_98, ↓w119_99, ↓w119_100, ↓w119_101, ↓k_isReplica hN, ↓k_isCommand hM, ↓k_cellOf, hx, hy, bI_t, ↓kc_i, ↓kc_l, ↓kc_r, ↓kc_n, rc64, g64_0, g64_1, g64_2, g64_3, g64_4, g64_5, g64_6, g64_7, g64_8, g64_9, g64_10, g64_11, g64_12, rc102, g102_0, p102_0, g102_1, p102_1, g102_2, g102_3, g102_4, g102_5, g102_6, g102_7, g102_8, g102_9, g102_10, g102_11, g102_12, gi103, si103, gi104, si104, gi105, si105, gi106, si106, mul8, mul8', mul4, mul4', nI_add, inT, nclN, ltT, ltF, leT, leF, eqT, eqF, nzF, m1F, m1T, shr, shg, bI0, bI1, bo_bI, bo_1, bo_0, eq10, eq00, frT1, frT2, frT3, fit0, fit1, fit2, fit3, true_and, and_true, ↓reduceIte, Nat.reduceAdd, Nat.reduceMul, and_self, not_false_eq_true, not_true_eq_false, Nat.zero_add, Nat.add_zero]
      show _ = P (some (.int (if z = nI 0 then I 103 (8 * r + c) else if z = nI 1 then I 104 (8 * r + c) else if z = nI 2 then I 105 (8 * r + c) else if z = nI 3 then I 106 (8 * r + c) else -1))) (mk I J R Z)
      repeat' (first | rfl | split)
    · have hy' := Bool.eq_false_iff.mpr hy
      rw [if_neg (fun q => hy q.2)]
      simp (discharger := omega) only [↓w119_0, ↓w119_1, ↓w119_2, ↓w119_5, ↓w119_8, ↓w119_9, ↓w119_10, ↓w119_13, ↓w119_16, ↓w119_17, ↓w119_18, ↓w119_19, ↓w119_20, ↓w119_23, ↓w119_25, ↓w119_26, ↓w119_56, ↓w119_57, ↓w119_60, ↓w119_63, ↓w119_65, ↓w119_66, ↓w119_67, ↓w119_68, ↓w119_71, ↓w119_74, ↓w119_76, ↓w119_77, ↓w119_78, ↓w119_79, ↓w119_82, ↓w119_85, ↓w119_87, ↓w119_88, ↓w119_89, ↓w119_90, ↓w119_93, ↓w119_96, ↓w119_98, ↓w119_99, ↓w119_100, ↓w119_101, ↓k_isReplica hN, ↓k_isCommand hM, hx, hy', bI_t, bI_f, ↓kc_i, ↓kc_l, ↓kc_r, ↓kc_n, rc64, g64_0, g64_1, g64_2, g64_3, g64_4, g64_5, g64_6, g64_7, g64_8, g64_9, g64_10, g64_11, g64_12, mul8, mul8', mul4, mul4', nI_add, inT, nclN, ltT, ltF, leT, leF, eqT, eqF, nzF, m1F, m1T, shr, shg, bI0, bI1, bo_bI, bo_1, bo_0, eq10, eq00, frT1, frT2, frT3, fit0, fit1, fit2, fit3, true_and, and_true, ↓reduceIte, Nat.reduceAdd, Nat.reduceMul, and_self, not_false_eq_true, not_true_eq_false, Nat.zero_add, Nat.add_zero]
  · have hx' := Bool.eq_false_iff.mpr hx
    rw [if_neg (fun q => hx q.1)]
    simp (discharger := omega) only [↓w119_0, ↓w119_1, ↓w119_2, ↓w119_5, ↓w119_8, ↓w119_9, ↓w119_10, ↓w119_13, ↓w119_16, ↓w119_17, ↓w119_18, ↓w119_19, ↓w119_20, ↓w119_23, ↓w119_25, ↓w119_26, ↓w119_56, ↓w119_57, ↓w119_60, ↓w119_63, ↓w119_65, ↓w119_66, ↓w119_67, ↓w119_68, ↓w119_71, ↓w119_74, ↓w119_76, ↓w119_77, ↓w119_78, ↓w119_79, ↓w119_82, ↓w119_85, ↓w119_87, ↓w119_88, ↓w119_89, ↓w119_90, ↓w119_93, ↓w119_96, ↓w119_98, ↓w119_99, ↓w119_100, ↓w119_101, ↓k_isReplica hN, hx', bI_f, ↓kc_i, ↓kc_l, ↓kc_r, ↓kc_n, rc64, g64_0, g64_1, g64_2, g64_3, g64_4, g64_5, g64_6, g64_7, g64_8, g64_9, g64_10, g64_11, g64_12, mul8, mul8', mul4, mul4', nI_add, inT, nclN, ltT, ltF, leT, leF, eqT, eqF, nzF, m1F, m1T, shr, shg, bI0, bI1, bo_bI, bo_1, bo_0, eq10, eq00, frT1, frT2, frT3, fit0, fit1, fit2, fit3, true_and, and_true, ↓reduceIte, Nat.reduceAdd, Nat.reduceMul, and_self, not_false_eq_true, not_true_eq_false, Nat.zero_add, Nat.add_zero]
def vRep (G : Gv) (V : Vw) (x y : Int32) : Int32 := if isR (gN G) x = true then (fun r => if y = nI 0 then bI (tb (V 0 0) r) else if y = nI 1 then V 7 r else if y = nI 2 then cAt (V 1) r (nI 3) (nI 3) else if y = nI 3 then cAt (V 1) r (nI 4) (nI 4) else -1) x.toNatClampNeg else -1
theorem k_replica (hG : okG (gI I)) : Wp L xs (d+2) 120 0 [some (.ref (64)), some (.int (x)), some (.int (y))] [] (mk I J R Z) P = P (some (.int (vRep (gI I) (vw I 102) x y))) (mk I J R Z) := by
  have hN : I 76 0 = nI (gN (gI I)) := hG.1.1
  have h5 := hG.1.2
  unfold vRep
  by_cases hx : isR (gN (gI I)) x = true
  · rw [if_pos hx]
    obtain ⟨r, hr, rfl⟩ := isR_t hx (by omega)
    rw [nI_clamp (by omega)]
    simp (discharger := omega) only [↓w120_0, ↓w120_1, ↓w120_2, ↓w120_5, ↓w120_8, ↓w120_9, ↓w120_10, ↓w120_11, ↓w120_40, ↓w120_41, ↓w120_44, ↓w120_45, ↓w120_48, ↓w120_51, ↓w120_52, ↓w120_55, ↓w120_56, ↓w120_57, ↓w120_58, ↓w120_61, ↓w120_64, ↓w120_65, ↓w120_66, ↓w120_67, ↓w120_68, ↓w120_71, ↓w120_72, ↓w120_73, ↓w120_74, ↓w120_77, ↓w120_78, ↓w120_79, ↓w120_82, ↓w120_83, ↓w120_84, ↓w120_85, ↓w120_88, ↓w120_89, ↓w120_90, ↓k_isReplica hN, ↓k_isUp isS_102, ↓k_commandsAt' isS_102, hx, bI_t, ↓kc_i, ↓kc_l, ↓kc_r, ↓kc_n, rc64, g64_0, g64_1, g64_2, g64_3, g64_4, g64_5, g64_6, g64_7, g64_8, g64_9, g64_10, g64_11, g64_12, rc102, g102_0, p102_0, g102_1, p102_1, g102_2, g102_3, g102_4, g102_5, g102_6, g102_7, g102_8, g102_9, g102_10, g102_11, g102_12, gi109, si109, mul8, mul8', mul4, mul4', nI_add, inT, nclN, ltT, ltF, leT, leF, eqT, eqF, nzF, m1F, m1T, shr, shg, bI0, bI1, bo_bI, bo_1, bo_0, eq10, eq00, frT1, frT2, frT3, fit0, fit1, fit2, fit3, true_and, and_true, ↓reduceIte, Nat.reduceAdd, Nat.reduceMul, and_self, not_false_eq_true, not_true_eq_false, Nat.zero_add, Nat.add_zero]
    show _ = P (some (.int (if y = nI 0 then bI (tb (I 102 0) r) else if y = nI 1 then I 109 r else if y = nI 2 then cAt (I 103) r (nI 3) (nI 3) else if y = nI 3 then cAt (I 103) r (nI 4) (nI 4) else -1))) (mk I J R Z)
    by_cases h0 : y = nI 0
    · simp only [h0, ↓reduceIte]
      cases tb (I 102 0) r <;> simp [bI]
    · simp only [h0, ↓reduceIte]
      repeat' (first | rfl | split)
  · have hx' := Bool.eq_false_iff.mpr hx
    rw [if_neg hx]
    simp (discharger := omega) only [↓w120_0, ↓w120_1, ↓w120_2, ↓w120_5, ↓w120_8, ↓w120_9, ↓w120_10, ↓w120_11, ↓w120_40, ↓w120_41, ↓w120_44, ↓w120_45, ↓w120_48, ↓w120_51, ↓w120_52, ↓w120_55, ↓w120_56, ↓w120_57, ↓w120_58, ↓w120_61, ↓w120_64, ↓w120_65, ↓w120_66, ↓w120_67, ↓w120_68, ↓w120_71, ↓w120_72, ↓w120_73, ↓w120_74, ↓w120_77, ↓w120_78, ↓w120_79, ↓w120_82, ↓w120_83, ↓w120_84, ↓w120_85, ↓w120_88, ↓w120_89, ↓w120_90, ↓k_isReplica hN, hx', bI_f, ↓kc_i, ↓kc_l, ↓kc_r, ↓kc_n, rc64, g64_0, g64_1, g64_2, g64_3, g64_4, g64_5, g64_6, g64_7, g64_8, g64_9, g64_10, g64_11, g64_12, mul8, mul8', mul4, mul4', nI_add, inT, nclN, ltT, ltF, leT, leF, eqT, eqF, nzF, m1F, m1T, shr, shg, bI0, bI1, bo_bI, bo_1, bo_0, eq10, eq00, frT1, frT2, frT3, fit0, fit1, fit2, fit3, true_and, and_true, ↓reduceIte, Nat.reduceAdd, Nat.reduceMul, and_self, not_false_eq_true, not_true_eq_false, Nat.zero_add, Nat.add_zero]
def vVal (G : Gv) (V : Vw) (x y : Int32) : Int32 := if isR (gN G) x = true ∧ isR (G 0 1).toNatClampNeg y = true then V 8 (4 * x.toNatClampNeg + y.toNatClampNeg) else -1
theorem k_value {K : Nat} (hG : okG (gI I)) (hK : I 76 1 = nI K) (hK4 : K ≤ 4) : Wp L xs (d+1) 122 0 [some (.ref (64)), some (.int (x)), some (.int (y))] [] (mk I J R Z) P = P (some (.int (vVal (gI I) (vw I 102) x y))) (mk I J R Z) := by
  have hN : I 76 0 = nI (gN (gI I)) := hG.1.1
  have h5 := hG.1.2
  have hKK : (gI I 0 1).toNatClampNeg = K := by show (I 76 1).toNatClampNeg = K; rw [hK, nI_clamp (by omega)]
  unfold vVal
  rw [hKK]
  by_cases hx : isR (gN (gI I)) x = true
  · by_cases hy : isR K y = true
    · rw [if_pos ⟨hx, hy⟩]
      obtain ⟨r, hr, rfl⟩ := isR_t hx (by omega)
      obtain ⟨c, hc, rfl⟩ := isR_t hy (by omega)
      rw [nI_clamp (by omega), nI_clamp (by omega)]
      simp (discharger := omega) only [↓w122_0, ↓w122_1, ↓w122_2, ↓w122_5, ↓w122_8, ↓w122_9, ↓w122_12, ↓w122_13, ↓w122_14, ↓w122_17, ↓w122_20, ↓w122_23, ↓w122_24, ↓w122_25, ↓w122_26, ↓w122_29, ↓w122_32, ↓w122_33, ↓w122_34, ↓w122_35, ↓w122_36, ↓w122_37, ↓w122_38, ↓k_isReplica hN, hx, bI_t, ↓kc_i, ↓kc_l, ↓kc_r, ↓kc_n, rc64, g64_0, g64_1, g64_2, g64_3, g64_4, g64_5, g64_6, g64_7, g64_8, g64_9, g64_10, g64_11, g64_12, rc76, g76_0, p76_0, g76_1, p76_1, g76_2, p76_2, g76_3, g76_4, g76_5, g76_6, g76_7, g76_8, rc102, g102_0, p102_0, g102_1, p102_1, g102_2, g102_3, g102_4, g102_5, g102_6, g102_7, g102_8, g102_9, g102_10, g102_11, g102_12, gi110, si110, hK, mul8, mul8', mul4, mul4', nI_add, inT, nclN, ltT, ltF, leT, leF, eqT, eqF, nzF, m1F, m1T, shr, shg, bI0, bI1, bo_bI, bo_1, bo_0, eq10, eq00, frT1, frT2, frT3, fit0, fit1, fit2, fit3, true_and, and_true, ↓reduceIte, Nat.reduceAdd, Nat.reduceMul, and_self, not_false_eq_true, not_true_eq_false, Nat.zero_add, Nat.add_zero]
      rfl
    · rw [if_neg (fun q => hy q.2)]
      unfold isR at hy
      simp (discharger := omega) only [↓w122_0, ↓w122_1, ↓w122_2, ↓w122_5, ↓w122_8, ↓w122_9, ↓w122_12, ↓w122_13, ↓w122_14, ↓w122_17, ↓w122_20, ↓w122_23, ↓w122_24, ↓w122_25, ↓w122_26, ↓w122_29, ↓w122_32, ↓w122_33, ↓w122_34, ↓w122_35, ↓w122_36, ↓w122_37, ↓w122_38, ↓k_isReplica hN, hx, bI_t, ↓kc_i, ↓kc_l, ↓kc_r, ↓kc_n, rc64, g64_0, g64_1, g64_2, g64_3, g64_4, g64_5, g64_6, g64_7, g64_8, g64_9, g64_10, g64_11, g64_12, rc76, g76_0, p76_0, g76_1, p76_1, g76_2, p76_2, g76_3, g76_4, g76_5, g76_6, g76_7, g76_8, hK, mul8, mul8', mul4, mul4', nI_add, inT, nclN, ltT, ltF, leT, leF, eqT, eqF, nzF, m1F, m1T, shr, shg, bI0, bI1, bo_bI, bo_1, bo_0, eq10, eq00, frT1, frT2, frT3, fit0, fit1, fit2, fit3, true_and, and_true, ↓reduceIte, Nat.reduceAdd, Nat.reduceMul, and_self, not_false_eq_true, not_true_eq_false, Nat.zero_add, Nat.add_zero]
      by_cases h1 : y < nI 0
      · simp [h1]
      · by_cases h2 : nI K ≤ y
        · simp [h1, h2, Int32.not_lt.mpr h2]
        · exact absurd (by simp [Int32.not_lt.mp h1, Int32.not_le.mp h2]) hy
  · have hx' := Bool.eq_false_iff.mpr hx
    rw [if_neg (fun q => hx q.1)]
    simp (discharger := omega) only [↓w122_0, ↓w122_1, ↓w122_2, ↓w122_5, ↓w122_8, ↓w122_9, ↓w122_12, ↓w122_13, ↓w122_14, ↓w122_17, ↓w122_20, ↓w122_23, ↓w122_24, ↓w122_25, ↓w122_26, ↓w122_29, ↓w122_32, ↓w122_33, ↓w122_34, ↓w122_35, ↓w122_36, ↓w122_37, ↓w122_38, ↓k_isReplica hN, hx', bI_f, ↓kc_i, ↓kc_l, ↓kc_r, ↓kc_n, rc64, g64_0, g64_1, g64_2, g64_3, g64_4, g64_5, g64_6, g64_7, g64_8, g64_9, g64_10, g64_11, g64_12, mul8, mul8', mul4, mul4', nI_add, inT, nclN, ltT, ltF, leT, leF, eqT, eqF, nzF, m1F, m1T, shr, shg, bI0, bI1, bo_bI, bo_1, bo_0, eq10, eq00, frT1, frT2, frT3, fit0, fit1, fit2, fit3, true_and, and_true, ↓reduceIte, Nat.reduceAdd, Nat.reduceMul, and_self, not_false_eq_true, not_true_eq_false, Nat.zero_add, Nat.add_zero]
def vGot (G : Gv) (V : Vw) (x y : Int32) : Int32 := if isR (gN G) x = true ∧ isR (gM G) y = true then (fun q => if G 1 y.toNatClampNeg = nI 2 ∧ V 1 q = nI 4 ∧ ¬ V 3 q = nI 0 then V 5 q else -1) (8 * x.toNatClampNeg + y.toNatClampNeg) else -1
theorem k_got (hG : okG (gI I)) : Wp L xs (d+1) 123 0 [some (.ref (64)), some (.int (x)), some (.int (y)), none] [] (mk I J R Z) P = P (some (.int (vGot (gI I) (vw I 102) x y))) (mk I J R Z) := by
  have hN : I 76 0 = nI (gN (gI I)) := hG.1.1
  have hM : I 76 2 = nI (gM (gI I)) := hG.2.1.1
  have h5 := hG.1.2
  have h8 := hG.2.1.2
  unfold vGot
  by_cases hx : isR (gN (gI I)) x = true
  · by_cases hy : isR (gM (gI I)) y = true
    · rw [if_pos ⟨hx, hy⟩]
      obtain ⟨r, hr, rfl⟩ := isR_t hx (by omega)
      obtain ⟨c, hc, rfl⟩ := isR_t hy (by omega)
      rw [nI_clamp (by omega), nI_clamp (by omega)]
      simp (discharger := omega) only [↓w123_0, ↓w123_1, ↓w123_2, ↓w123_5, ↓w123_8, ↓w123_9, ↓w123_10, ↓w123_13, ↓w123_16, ↓w123_17, ↓w123_20, ↓w123_23, ↓w123_24, ↓w123_25, ↓w123_26, ↓w123_29, ↓w123_30, ↓w123_31, ↓w123_32, ↓w123_33, ↓w123_36, ↓w123_37, ↓w123_38, ↓w123_41, ↓w123_44, ↓w123_45, ↓w123_46, ↓w123_47, ↓w123_50, ↓w123_51, ↓w123_54, ↓w123_55, ↓w123_58, ↓w123_61, ↓w123_62, ↓w123_65, ↓w123_68, ↓w123_69, ↓w123_70, ↓w123_73, ↓w123_74, ↓k_isReplica hN, ↓k_isCommand hM, ↓k_cellOf, ↓k_isEmptyAt isS_102, hx, hy, bI_t, ↓kc_i, ↓kc_l, ↓kc_r, ↓kc_n, rc64, g64_0, g64_1, g64_2, g64_3, g64_4, g64_5, g64_6, g64_7, g64_8, g64_9, g64_10, g64_11, g64_12, rc76, g76_0, p76_0, g76_1, p76_1, g76_2, p76_2, g76_3, g76_4, g76_5, g76_6, g76_7, g76_8, gi77, si77, rc102, g102_0, p102_0, g102_1, p102_1, g102_2, g102_3, g102_4, g102_5, g102_6, g102_7, g102_8, g102_9, g102_10, g102_11, g102_12, gi103, si103, gi107, si107, mul8, mul8', mul4, mul4', nI_add, inT, nclN, ltT, ltF, leT, leF, eqT, eqF, nzF, m1F, m1T, shr, shg, bI0, bI1, bo_bI, bo_1, bo_0, eq10, eq00, frT1, frT2, frT3, fit0, fit1, fit2, fit3, true_and, and_true, ↓reduceIte, Nat.reduceAdd, Nat.reduceMul, and_self, not_false_eq_true, not_true_eq_false, Nat.zero_add, Nat.add_zero]
      show _ = P (some (.int (if I 77 c = nI 2 ∧ I 103 (8 * r + c) = nI 4 ∧ ¬ I 105 (8 * r + c) = nI 0 then I 107 (8 * r + c) else -1))) (mk I J R Z)
      by_cases h1 : I 77 c = nI 2 <;> by_cases h2 : I 103 (8 * r + c) = nI 4 <;> by_cases h3 : I 105 (8 * r + c) = nI 0 <;> simp [h1, h2, h3]
    · have hy' := Bool.eq_false_iff.mpr hy
      rw [if_neg (fun q => hy q.2)]
      simp (discharger := omega) only [↓w123_0, ↓w123_1, ↓w123_2, ↓w123_5, ↓w123_8, ↓w123_9, ↓w123_10, ↓w123_13, ↓w123_16, ↓w123_17, ↓w123_20, ↓w123_23, ↓w123_24, ↓w123_25, ↓w123_26, ↓w123_29, ↓w123_30, ↓w123_31, ↓w123_32, ↓w123_33, ↓w123_36, ↓w123_37, ↓w123_38, ↓w123_41, ↓w123_44, ↓w123_45, ↓w123_46, ↓w123_47, ↓w123_50, ↓w123_51, ↓w123_54, ↓w123_55, ↓w123_58, ↓w123_61, ↓w123_62, ↓w123_65, ↓w123_68, ↓w123_69, ↓w123_70, ↓w123_73, ↓w123_74, ↓k_isReplica hN, ↓k_isCommand hM, hx, hy', bI_t, bI_f, ↓kc_i, ↓kc_l, ↓kc_r, ↓kc_n, rc64, g64_0, g64_1, g64_2, g64_3, g64_4, g64_5, g64_6, g64_7, g64_8, g64_9, g64_10, g64_11, g64_12, mul8, mul8', mul4, mul4', nI_add, inT, nclN, ltT, ltF, leT, leF, eqT, eqF, nzF, m1F, m1T, shr, shg, bI0, bI1, bo_bI, bo_1, bo_0, eq10, eq00, frT1, frT2, frT3, fit0, fit1, fit2, fit3, true_and, and_true, ↓reduceIte, Nat.reduceAdd, Nat.reduceMul, and_self, not_false_eq_true, not_true_eq_false, Nat.zero_add, Nat.add_zero]
  · have hx' := Bool.eq_false_iff.mpr hx
    rw [if_neg (fun q => hx q.1)]
    simp (discharger := omega) only [↓w123_0, ↓w123_1, ↓w123_2, ↓w123_5, ↓w123_8, ↓w123_9, ↓w123_10, ↓w123_13, ↓w123_16, ↓w123_17, ↓w123_20, ↓w123_23, ↓w123_24, ↓w123_25, ↓w123_26, ↓w123_29, ↓w123_30, ↓w123_31, ↓w123_32, ↓w123_33, ↓w123_36, ↓w123_37, ↓w123_38, ↓w123_41, ↓w123_44, ↓w123_45, ↓w123_46, ↓w123_47, ↓w123_50, ↓w123_51, ↓w123_54, ↓w123_55, ↓w123_58, ↓w123_61, ↓w123_62, ↓w123_65, ↓w123_68, ↓w123_69, ↓w123_70, ↓w123_73, ↓w123_74, ↓k_isReplica hN, hx', bI_f, ↓kc_i, ↓kc_l, ↓kc_r, ↓kc_n, rc64, g64_0, g64_1, g64_2, g64_3, g64_4, g64_5, g64_6, g64_7, g64_8, g64_9, g64_10, g64_11, g64_12, mul8, mul8', mul4, mul4', nI_add, inT, nclN, ltT, ltF, leT, leF, eqT, eqF, nzF, m1F, m1T, shr, shg, bI0, bI1, bo_bI, bo_1, bo_0, eq10, eq00, frT1, frT2, frT3, fit0, fit1, fit2, fit3, true_and, and_true, ↓reduceIte, Nat.reduceAdd, Nat.reduceMul, and_self, not_false_eq_true, not_true_eq_false, Nat.zero_add, Nat.add_zero]
def vCla (G : Gv) (x y : Int32) : Bool := isR (gM G) x && (isR (gM G) y && tb (G 5 x.toNatClampNeg) y.toNatClampNeg)
theorem k_clash (hG : okG (gI I)) : Wp L xs (d+1) 124 0 [some (.ref (64)), some (.int (x)), some (.int (y))] [] (mk I J R Z) P = P (some (.int (bI (vCla (gI I) x y)))) (mk I J R Z) := by
  have hM : I 76 2 = nI (gM (gI I)) := hG.2.1.1
  have h8 := hG.2.1.2
  unfold vCla
  by_cases hx : isR (gM (gI I)) x = true
  · by_cases hy : isR (gM (gI I)) y = true
    · obtain ⟨r, hr, rfl⟩ := isR_t hx (by omega)
      obtain ⟨c, hc, rfl⟩ := isR_t hy (by omega)
      rw [nI_clamp (by omega), nI_clamp (by omega), hx, hy]
      simp (discharger := omega) only [↓w124_0, ↓w124_1, ↓w124_2, ↓w124_5, ↓w124_8, ↓w124_9, ↓w124_10, ↓w124_13, ↓w124_16, ↓w124_17, ↓w124_20, ↓w124_21, ↓w124_22, ↓w124_25, ↓w124_28, ↓w124_29, ↓w124_32, ↓w124_33, ↓k_isCommand hM, ↓k_isClash, hx, hy, bI_t, ↓kc_i, ↓kc_l, ↓kc_r, ↓kc_n, rc64, g64_0, g64_1, g64_2, g64_3, g64_4, g64_5, g64_6, g64_7, g64_8, g64_9, g64_10, g64_11, g64_12, rc76, g76_0, p76_0, g76_1, p76_1, g76_2, p76_2, g76_3, g76_4, g76_5, g76_6, g76_7, g76_8, mul8, mul8', mul4, mul4', nI_add, inT, nclN, ltT, ltF, leT, leF, eqT, eqF, nzF, m1F, m1T, shr, shg, bI0, bI1, bo_bI, bo_1, bo_0, eq10, eq00, frT1, frT2, frT3, fit0, fit1, fit2, fit3, true_and, and_true, ↓reduceIte, Nat.reduceAdd, Nat.reduceMul, and_self, not_false_eq_true, not_true_eq_false, Nat.zero_add, Nat.add_zero]
      show _ = P (some (.int (bI (true && (true && tb (I 81 r) c))))) (mk I J R Z)
      cases tb (I 81 r) c <;> simp [bI, bo_0, bo_1]
    · have hy' := Bool.eq_false_iff.mpr hy
      rw [hx, hy']
      simp (discharger := omega) only [↓w124_0, ↓w124_1, ↓w124_2, ↓w124_5, ↓w124_8, ↓w124_9, ↓w124_10, ↓w124_13, ↓w124_16, ↓w124_17, ↓w124_20, ↓w124_21, ↓w124_22, ↓w124_25, ↓w124_28, ↓w124_29, ↓w124_32, ↓w124_33, ↓k_isCommand hM, hx, hy', bI_t, bI_f, ↓kc_i, ↓kc_l, ↓kc_r, ↓kc_n, rc64, g64_0, g64_1, g64_2, g64_3, g64_4, g64_5, g64_6, g64_7, g64_8, g64_9, g64_10, g64_11, g64_12, mul8, mul8', mul4, mul4', nI_add, inT, nclN, ltT, ltF, leT, leF, eqT, eqF, nzF, m1F, m1T, shr, shg, bI0, bI1, bo_bI, bo_1, bo_0, eq10, eq00, frT1, frT2, frT3, fit0, fit1, fit2, fit3, true_and, and_true, ↓reduceIte, Nat.reduceAdd, Nat.reduceMul, and_self, not_false_eq_true, not_true_eq_false, Nat.zero_add, Nat.add_zero]
      rfl
  · have hx' := Bool.eq_false_iff.mpr hx
    rw [hx']
    simp (discharger := omega) only [↓w124_0, ↓w124_1, ↓w124_2, ↓w124_5, ↓w124_8, ↓w124_9, ↓w124_10, ↓w124_13, ↓w124_16, ↓w124_17, ↓w124_20, ↓w124_21, ↓w124_22, ↓w124_25, ↓w124_28, ↓w124_29, ↓w124_32, ↓w124_33, ↓k_isCommand hM, hx', bI_f, ↓kc_i, ↓kc_l, ↓kc_r, ↓kc_n, rc64, g64_0, g64_1, g64_2, g64_3, g64_4, g64_5, g64_6, g64_7, g64_8, g64_9, g64_10, g64_11, g64_12, mul8, mul8', mul4, mul4', nI_add, inT, nclN, ltT, ltF, leT, leF, eqT, eqF, nzF, m1F, m1T, shr, shg, bI0, bI1, bo_bI, bo_1, bo_0, eq10, eq00, frT1, frT2, frT3, fit0, fit1, fit2, fit3, true_and, and_true, ↓reduceIte, Nat.reduceAdd, Nat.reduceMul, and_self, not_false_eq_true, not_true_eq_false, Nat.zero_add, Nat.add_zero]
    rfl
end E0
