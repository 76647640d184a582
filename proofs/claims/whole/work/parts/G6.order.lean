/-! order(..): the class throws, the model says that it threw -/
def canO (G : Gv) (V : Vw) (x y : Int32) : Bool := isR (gN G) x && isR (V 7 x.toNatClampNeg).toNatClampNeg y
def vOrd (V : Vw) (x y : Int32) : Int32 := V 6 (8 * x.toNatClampNeg + y.toNatClampNeg)
section P3
variable {L : Nat} {xs : Nat → Int32} {d : Nat} {P : Option Value → Hp → Prop} {I : Mi} {J : Mj} {R : Mr} {Z : Mz} {x y : Int32} {V : Vw} {B : Nat} {G : Gv}
theorem okV_7n (h : okV B G V) {r : Nat} (hr : r < 5) : V 7 r = nI (V 7 r).toNatClampNeg ∧ (V 7 r).toNatClampNeg ≤ 8 := by
  have e := h.2.1.2.2.2.2.2 r hr
  have := pcn_le (x := rn (V 1) r)
  rw [e, nI_clamp (by omega)]
  exact ⟨rfl, this⟩
theorem k_order (hG : okG (gI I)) (h7 : ∀ r, r < 5 → I 109 r = nI (I 109 r).toNatClampNeg ∧ (I 109 r).toNatClampNeg ≤ 8) : Wp L xs (d+1) 121 0 [some (.ref (64)), some (.int (x)), some (.int (y))] [] (mk I J R Z) P = P (some (if canO (gI I) (vw I 102) x y = true then .int (vOrd (vw I 102) x y) else .retAddr 7)) (mk I J R Z) := by
  have hN : I 76 0 = nI (gN (gI I)) := hG.1.1
  have h5 := hG.1.2
  unfold canO vOrd
  show _ = P (some (if (isR (gN (gI I)) x && isR (I 109 x.toNatClampNeg).toNatClampNeg y) = true then .int (I 108 (8 * x.toNatClampNeg + y.toNatClampNeg)) else .retAddr 7)) (mk I J R Z)
  by_cases hx : isR (gN (gI I)) x = true
  · obtain ⟨r, hr, rfl⟩ := isR_t hx (by omega)
    rw [nI_clamp (by omega)]
    obtain ⟨e1, e2⟩ := h7 r (by omega)
    generalize (I 109 r).toNatClampNeg = m at *
    rw [hx, Bool.true_and]
    by_cases hy : isR m y = true
    · rw [if_pos hy]
      obtain ⟨c, hc, rfl⟩ := isR_t hy (by omega)
      rw [nI_clamp (by omega)]
      simp (discharger := omega) only [↓w121_0, ↓w121_1, ↓w121_2, ↓w121_5, ↓w121_8, ↓w121_9, ↓w121_12, ↓w121_13, ↓w121_14, ↓w121_17, ↓w121_20, ↓w121_21, ↓w121_22, ↓w121_25, ↓w121_33, ↓w121_34, ↓w121_37, ↓w121_40, ↓w121_41, ↓w121_42, ↓w121_45, ↓w121_46, ↓w86_0, ↓w86_1, ↓w86_3, ↓w86_4, ↓w86_5, ↓w86_6, ↓k_isReplica hN, hx, bI_t, ↓kc_i, ↓kc_l, ↓kc_r, ↓kc_n, rc64, g64_0, g64_1, g64_2, g64_3, g64_4, g64_5, g64_6, g64_7, g64_8, g64_9, g64_10, g64_11, g64_12, rc102, g102_0, p102_0, g102_1, p102_1, g102_2, g102_3, g102_4, g102_5, g102_6, g102_7, g102_8, g102_9, g102_10, g102_11, g102_12, gi109, si109, gi108, si108, e1, mul8, mul8', mul4, mul4', nI_add, inT, nclN, ltT, ltF, leT, leF, eqT, eqF, nzF, m1F, m1T, shr, shg, bI0, bI1, bo_bI, bo_1, bo_0, eq10, eq00, frT1, frT2, frT3, fit0, fit1, fit2, fit3, true_and, and_true, ↓reduceIte, Nat.reduceAdd, Nat.reduceMul, and_self, not_false_eq_true, not_true_eq_false, Nat.zero_add, Nat.add_zero]
    · rw [if_neg hy]
      unfold isR at hy
      by_cases q0 : nI 0 ≤ y
      · have q1 : (y < nI m) = False := eq_false (fun z => hy (by rw [decide_eq_true q0, decide_eq_true z]; rfl))
        have q0' : (y < nI 0) = False := eq_false (Int32.not_lt.mpr q0)
        simp (discharger := omega) only [↓w121_0, ↓w121_1, ↓w121_2, ↓w121_5, ↓w121_8, ↓w121_9, ↓w121_12, ↓w121_13, ↓w121_14, ↓w121_17, ↓w121_20, ↓w121_21, ↓w121_22, ↓w121_25, ↓w121_33, ↓w121_34, ↓w121_37, ↓w121_40, ↓w121_41, ↓w121_42, ↓w121_45, ↓w121_46, ↓k_isReplica hN, hx, bI_t, ↓kc_i, ↓kc_l, ↓kc_r, ↓kc_n, rc64, g64_0, g64_1, g64_2, g64_3, g64_4, g64_5, g64_6, g64_7, g64_8, g64_9, g64_10, g64_11, g64_12, rc102, g102_0, p102_0, g102_1, p102_1, g102_2, g102_3, g102_4, g102_5, g102_6, g102_7, g102_8, g102_9, g102_10, g102_11, g102_12, gi109, si109, gi108, si108, e1, q1, q0', mul8, mul8', mul4, mul4', nI_add, inT, nclN, ltT, ltF, leT, leF, eqT, eqF, nzF, m1F, m1T, shr, shg, bI0, bI1, bo_bI, bo_1, bo_0, eq10, eq00, frT1, frT2, frT3, fit0, fit1, fit2, fit3, true_and, and_true, ↓reduceIte, Nat.reduceAdd, Nat.reduceMul, and_self, not_false_eq_true, not_true_eq_false, Nat.zero_add, Nat.add_zero]
      · have q0' : (y < nI 0) = True := eq_true (Int32.not_le.mp q0)
        simp (discharger := omega) only [↓w121_0, ↓w121_1, ↓w121_2, ↓w121_5, ↓w121_8, ↓w121_9, ↓w121_12, ↓w121_13, ↓w121_14, ↓w121_17, ↓w121_20, ↓w121_21, ↓w121_22, ↓w121_25, ↓w121_33, ↓w121_34, ↓w121_37, ↓w121_40, ↓w121_41, ↓w121_42, ↓w121_45, ↓w121_46, ↓k_isReplica hN, hx, bI_t, ↓kc_i, ↓kc_l, ↓kc_r, ↓kc_n, rc64, g64_0, g64_1, g64_2, g64_3, g64_4, g64_5, g64_6, g64_7, g64_8, g64_9, g64_10, g64_11, g64_12, q0', mul8, mul8', mul4, mul4', nI_add, inT, nclN, ltT, ltF, leT, leF, eqT, eqF, nzF, m1F, m1T, shr, shg, bI0, bI1, bo_bI, bo_1, bo_0, eq10, eq00, frT1, frT2, frT3, fit0, fit1, fit2, fit3, true_and, and_true, ↓reduceIte, Nat.reduceAdd, Nat.reduceMul, and_self, not_false_eq_true, not_true_eq_false, Nat.zero_add, Nat.add_zero]
  · have hx' := Bool.eq_false_iff.mpr hx
    rw [hx', Bool.false_and, if_neg (by decide)]
    simp (discharger := omega) only [↓w121_0, ↓w121_1, ↓w121_2, ↓w121_5, ↓w121_8, ↓w121_9, ↓w121_12, ↓w121_13, ↓w121_14, ↓w121_17, ↓w121_20, ↓w121_21, ↓w121_22, ↓w121_25, ↓w121_33, ↓w121_34, ↓w121_37, ↓w121_40, ↓w121_41, ↓w121_42, ↓w121_45, ↓w121_46, ↓k_isReplica hN, hx', bI_f, ↓kc_i, ↓kc_l, ↓kc_r, ↓kc_n, rc64, g64_0, g64_1, g64_2, g64_3, g64_4, g64_5, g64_6, g64_7, g64_8, g64_9, g64_10, g64_11, g64_12, mul8, mul8', mul4, mul4', nI_add, inT, nclN, ltT, ltF, leT, leF, eqT, eqF, nzF, m1F, m1T, shr, shg, bI0, bI1, bo_bI, bo_1, bo_0, eq10, eq00, frT1, frT2, frT3, fit0, fit1, fit2, fit3, true_and, and_true, ↓reduceIte, Nat.reduceAdd, Nat.reduceMul, and_self, not_false_eq_true, not_true_eq_false, Nat.zero_add, Nat.add_zero]
theorem m_order (hG : okG (mG I)) (h7 : ∀ r, r < 5 → V 7 r = nI (V 7 r).toNatClampNeg ∧ (V 7 r).toNatClampNeg ≤ 8) : Wp L xs (d+1) 261 0 [some (.ref (420)), some (.int (x)), some (.int (y))] [] (mk (pm I V) J R Z) P = P (some (.int (if canO (mG I) V x y = true then vOrd V x y else nI 0))) (mk (pm (st I 420 (upd (I 420) 0 (if canO (mG I) V x y = true then nI 0 else nI 1))) V) J R Z) := by
  have hN : I 422 0 = nI (gN (mG I)) := hG.1.1
  have h5 := hG.1.2
  have ir := fun x P => m_isReplica (L := L) (xs := xs) (d := d) (P := P) (I := pm I V) (J := J) (R := R) (Z := Z) (x := x) (show pm I V 422 0 = nI (gN (mG I)) by rw [pm_ne (by decide)]; exact hN)
  unfold canO vOrd
  by_cases hx : isR (gN (mG I)) x = true
  · obtain ⟨r, hr, rfl⟩ := isR_t hx (by omega)
    rw [nI_clamp (by omega)]
    obtain ⟨e1, e2⟩ := h7 r (by omega)
    generalize (V 7 r).toNatClampNeg = m at *
    rw [hx, Bool.true_and]
    by_cases hy : isR m y = true
    · rw [if_pos hy, if_pos hy]
      obtain ⟨c, hc, rfl⟩ := isR_t hy (by omega)
      rw [nI_clamp (by omega)]
      simp (discharger := omega) only [↓w261_0, ↓w261_1, ↓w261_2, ↓w261_3, ↓w261_6, ↓w261_9, ↓w261_10, ↓w261_13, ↓w261_14, ↓w261_15, ↓w261_18, ↓w261_21, ↓w261_22, ↓w261_23, ↓w261_24, ↓w261_27, ↓w261_28, ↓w261_31, ↓w261_32, ↓w261_35, ↓w261_36, ↓w261_39, ↓w261_40, ↓w261_43, ↓w261_44, ↓w261_47, ↓w261_48, ↓w261_51, ↓w261_54, ↓w261_56, ↓w261_57, ↓w261_58, ↓w261_59, ↓w261_60, ↓w261_61, ↓w261_62, ↓ir, hx, bI_t, ↓kc_i, ↓kc_l, ↓kc_r, ↓kc_n, rc420, g420_0, p420_0, g420_1, p420_1, g420_2, g420_3, p420_3, g420_4, p420_4, g420_5, p420_5, g420_6, p420_6, g420_7, p420_7, g420_8, p420_8, g420_9, p420_9, g420_10, g420_11, g420_12, g420_13, g420_14, g420_15, g420_16, g420_17, g420_18, g420_19, p420_19, g420_20, g420_21, g420_22, g420_23, g420_24, g420_25, g420_26, g420_27, g420_28, g420_29, g420_30, g420_31, g420_32, p420_32, g420_33, g420_34, g420_35, g420_36, g420_37, g420_38, g420_39, g420_40, g420_41, g420_42, g420_43, g420_44, g420_45, g420_46, g420_47, p420_47, g420_48, g420_49, p420_49, gi451, si451, pm_eq, pm_ne, st_pm, st_pmne, rd1, rd2, rd3, rd4, rd5, rd6, rd2s, rd3s, rd4s, rd5s, rd7, rd8, rd9, rd10, rd11, rd0, rdc, wr1, wr2, wr3, wr4, wr5, wr6, wr2s, wr3s, wr4s, wr5s, wr7, wr8, wr9, wr10, wr11, wr0, wrc, st_ne, st_eq, st_st, e1, upd_eq, mul8, mul8', mul4, mul4', nI_add, inT, nclN, ltT, ltF, leT, leF, eqT, eqF, nzF, m1F, m1T, shr, shg, bI0, bI1, bo_bI, bo_1, bo_0, eq10, eq00, frT1, frT2, frT3, fit0, fit1, fit2, fit3, true_and, and_true, ↓reduceIte, Nat.reduceAdd, Nat.reduceMul, and_self, not_false_eq_true, not_true_eq_false, Nat.zero_add, Nat.add_zero]
    · rw [if_neg hy, if_neg hy]
      unfold isR at hy
      by_cases q0 : nI 0 ≤ y
      · have q1 : (nI m ≤ y) = True := eq_true (Int32.not_lt.mp (fun z => hy (by rw [decide_eq_true q0, decide_eq_true z]; rfl)))
        have q0' : (y < nI 0) = False := eq_false (Int32.not_lt.mpr q0)
        simp (discharger := omega) only [↓w261_0, ↓w261_1, ↓w261_2, ↓w261_3, ↓w261_6, ↓w261_9, ↓w261_10, ↓w261_13, ↓w261_14, ↓w261_15, ↓w261_18, ↓w261_21, ↓w261_22, ↓w261_23, ↓w261_24, ↓w261_27, ↓w261_28, ↓w261_31, ↓w261_32, ↓w261_35, ↓w261_36, ↓w261_39, ↓w261_40, ↓w261_43, ↓w261_44, ↓w261_47, ↓w261_48, ↓w261_51, ↓w261_54, ↓w261_56, ↓w261_57, ↓w261_58, ↓w261_59, ↓w261_60, ↓w261_61, ↓w261_62, ↓ir, hx, bI_t, ↓kc_i, ↓kc_l, ↓kc_r, ↓kc_n, rc420, g420_0, p420_0, g420_1, p420_1, g420_2, g420_3, p420_3, g420_4, p420_4, g420_5, p420_5, g420_6, p420_6, g420_7, p420_7, g420_8, p420_8, g420_9, p420_9, g420_10, g420_11, g420_12, g420_13, g420_14, g420_15, g420_16, g420_17, g420_18, g420_19, p420_19, g420_20, g420_21, g420_22, g420_23, g420_24, g420_25, g420_26, g420_27, g420_28, g420_29, g420_30, g420_31, g420_32, p420_32, g420_33, g420_34, g420_35, g420_36, g420_37, g420_38, g420_39, g420_40, g420_41, g420_42, g420_43, g420_44, g420_45, g420_46, g420_47, p420_47, g420_48, g420_49, p420_49, gi451, si451, pm_eq, pm_ne, st_pm, st_pmne, rd1, rd2, rd3, rd4, rd5, rd6, rd2s, rd3s, rd4s, rd5s, rd7, rd8, rd9, rd10, rd11, rd0, rdc, wr1, wr2, wr3, wr4, wr5, wr6, wr2s, wr3s, wr4s, wr5s, wr7, wr8, wr9, wr10, wr11, wr0, wrc, st_ne, st_eq, st_st, e1, q1, q0', upd_eq, mul8, mul8', mul4, mul4', nI_add, inT, nclN, ltT, ltF, leT, leF, eqT, eqF, nzF, m1F, m1T, shr, shg, bI0, bI1, bo_bI, bo_1, bo_0, eq10, eq00, frT1, frT2, frT3, fit0, fit1, fit2, fit3, true_and, and_true, ↓reduceIte, Nat.reduceAdd, Nat.reduceMul, and_self, not_false_eq_true, not_true_eq_false, Nat.zero_add, Nat.add_zero]
      · have q0' : (y < nI 0) = True := eq_true (Int32.not_le.mp q0)
        simp (discharger := omega) only [↓w261_0, ↓w261_1, ↓w261_2, ↓w261_3, ↓w261_6, ↓w261_9, ↓w261_10, ↓w261_13, ↓w261_14, ↓w261_15, ↓w261_18, ↓w261_21, ↓w261_22, ↓w261_23, ↓w261_24, ↓w261_27, ↓w261_28, ↓w261_31, ↓w261_32, ↓w261_35, ↓w261_36, ↓w261_39, ↓w261_40, ↓w261_43, ↓w261_44, ↓w261_47, ↓w261_48, ↓w261_51, ↓w261_54, ↓w261_56, ↓w261_57, ↓w261_58, ↓w261_59, ↓w261_60, ↓w261_61, ↓w261_62, ↓ir, hx, bI_t, ↓kc_i, ↓kc_l, ↓kc_r, ↓kc_n, rc420, g420_0, p420_0, g420_1, p420_1, g420_2, g420_3, p420_3, g420_4, p420_4, g420_5, p420_5, g420_6, p420_6, g420_7, p420_7, g420_8, p420_8, g420_9, p420_9, g420_10, g420_11, g420_12, g420_13, g420_14, g420_15, g420_16, g420_17, g420_18, g420_19, p420_19, g420_20, g420_21, g420_22, g420_23, g420_24, g420_25, g420_26, g420_27, g420_28, g420_29, g420_30, g420_31, g420_32, p420_32, g420_33, g420_34, g420_35, g420_36, g420_37, g420_38, g420_39, g420_40, g420_41, g420_42, g420_43, g420_44, g420_45, g420_46, g420_47, p420_47, g420_48, g420_49, p420_49, pm_eq, pm_ne, st_pm, st_pmne, rd1, rd2, rd3, rd4, rd5, rd6, rd2s, rd3s, rd4s, rd5s, rd7, rd8, rd9, rd10, rd11, rd0, rdc, wr1, wr2, wr3, wr4, wr5, wr6, wr2s, wr3s, wr4s, wr5s, wr7, wr8, wr9, wr10, wr11, wr0, wrc, st_ne, st_eq, st_st, q0', upd_eq, mul8, mul8', mul4, mul4', nI_add, inT, nclN, ltT, ltF, leT, leF, eqT, eqF, nzF, m1F, m1T, shr, shg, bI0, bI1, bo_bI, bo_1, bo_0, eq10, eq00, frT1, frT2, frT3, fit0, fit1, fit2, fit3, true_and, and_true, ↓reduceIte, Nat.reduceAdd, Nat.reduceMul, and_self, not_false_eq_true, not_true_eq_false, Nat.zero_add, Nat.add_zero]
  · have hx' := Bool.eq_false_iff.mpr hx
    rw [hx', Bool.false_and, if_neg (by decide), if_neg (by decide)]
    simp (discharger := omega) only [↓w261_0, ↓w261_1, ↓w261_2, ↓w261_3, ↓w261_6, ↓w261_9, ↓w261_10, ↓w261_13, ↓w261_14, ↓w261_15, ↓w261_18, ↓w261_21, ↓w261_22, ↓w261_23, ↓w261_24, ↓w261_27, ↓w261_28, ↓w261_31, ↓w261_32, ↓w261_35, ↓w261_36, ↓w261_39, ↓w261_40, ↓w261_43, ↓w261_44, ↓w261_47, ↓w261_48, ↓w261_51, ↓w261_54, ↓w261_56, ↓w261_57, ↓w261_58, ↓w261_59, ↓w261_60, ↓w261_61, ↓w261_62, ↓ir, hx', bI_f, ↓kc_i, ↓kc_l, ↓kc_r, ↓kc_n, rc420, g420_0, p420_0, g420_1, p420_1, g420_2, g420_3, p420_3, g420_4, p420_4, g420_5, p420_5, g420_6, p420_6, g420_7, p420_7, g420_8, p420_8, g420_9, p420_9, g420_10, g420_11, g420_12, g420_13, g420_14, g420_15, g420_16, g420_17, g420_18, g420_19, p420_19, g420_20, g420_21, g420_22, g420_23, g420_24, g420_25, g420_26, g420_27, g420_28, g420_29, g420_30, g420_31, g420_32, p420_32, g420_33, g420_34, g420_35, g420_36, g420_37, g420_38, g420_39, g420_40, g420_41, g420_42, g420_43, g420_44, g420_45, g420_46, g420_47, p420_47, g420_48, g420_49, p420_49, pm_eq, pm_ne, st_pm, st_pmne, rd1, rd2, rd3, rd4, rd5, rd6, rd2s, rd3s, rd4s, rd5s, rd7, rd8, rd9, rd10, rd11, rd0, rdc, wr1, wr2, wr3, wr4, wr5, wr6, wr2s, wr3s, wr4s, wr5s, wr7, wr8, wr9, wr10, wr11, wr0, wrc, st_ne, st_eq, st_st, upd_eq, mul8, mul8', mul4, mul4', nI_add, inT, nclN, ltT, ltF, leT, leF, eqT, eqF, nzF, m1F, m1T, shr, shg, bI0, bI1, bo_bI, bo_1, bo_0, eq10, eq00, frT1, frT2, frT3, fit0, fit1, fit2, fit3, true_and, and_true, ↓reduceIte, Nat.reduceAdd, Nat.reduceMul, and_self, not_false_eq_true, not_true_eq_false, Nat.zero_add, Nat.add_zero]
theorem canO_eq {G' : Gv} {W : Vw} (hag : agG G G') (hs : smV G V W) : canO G' W x y = canO G V x y ∧ vOrd W x y = vOrd V x y := by
  unfold canO vOrd
  rw [← ag_N hag, hs.1 7 (by decide) (by decide), hs.1 6 (by decide) (by decide)]
  exact ⟨rfl, rfl⟩
theorem wp_or {y pc : Nat} {ls : Lv} {st : List Value} {h : Hp} {M : Mt} {ins : Instr} {len r1 r2 q1 o : Nat} {a b : Int32} {rest : List Value} {v : Option Value} {h1 : Hp} {q : Value × Hp} (hM : ip_ms[y]? = some M) (hf : ip_fe M.2.2.2.2.2.2.2 pc = some (ins, len, r1, r2, 8)) (hk : (decide (4 < ip_k ins) && decide (ip_k ins < 8)) = true) (hp : ip_pop r2 [] st = some ([.ref q1, .int a, .int b, .ref o], rest)) (hw : decide ((rest.map fun v => v.category).sum ≤ 8) = true) (hd : 6 ≤ d) (hrc : ip_rc h 10 [.ref q1] = true) (hr : ∀ P, Wp L xs d 121 0 [some (.ref q1), some (.int a), some (.int b)] [] h P = P v h1) (ho : ip_or (v, h1) o = some q) : Wp L xs (d + 2) y pc ls st h P = Wp L xs (d + 2) y (pc + 3) ls (q.1 :: rest) q.2 P := by
  have hkal := wp_kal (L := L) (xs := xs) (d := d + 1) (ls := ls) (h := h) hM hf hk hp hw
  have hdet : ∀ n r, ip_run L xs n d 121 0 [some (.ref q1), some (.int a), some (.int b)] [] h = some r → r = (v, h1) := fun n r hh => by
    have : (fun v' h' => (v', h') = r) v h1 := Eq.mp (hr (fun v' h' => (v', h') = r)) ⟨n, r, hh, rfl⟩
    exact this.symm
  obtain ⟨n0, r0, e0, -⟩ : Wp L xs d 121 0 [some (.ref q1), some (.int a), some (.int b)] [] h (fun _ _ => True) := by rw [hr]; trivial
  have e0' := hdet n0 r0 e0
  subst e0'
  have key : ∀ n, ip_cal (fun d' y' ls' h' => ip_run L xs n d' y' 0 ls' [] h') (d + 1 + 1) r1 8 h [.ref q1, .int a, .int b, .ref o] = (match ip_run L xs n d 121 0 [some (.ref q1), some (.int a), some (.int b)] [] h with
      | some r => (ip_or r o).map fun q => (some q.1, q.2)
      | none => none) := fun n => by
    rw [ip_cal8, if_pos (by omega)]
    dsimp only
    rw [if_pos hrc]
    rfl
  refine propext ⟨?_, ?_⟩
  · rintro ⟨n, r, hh, hP⟩
    cases n with
    | zero => cases hh
    | succ n =>
      rw [show d + 2 = d + 1 + 1 from rfl, hkal, key] at hh
      cases e : ip_run L xs n d 121 0 [some (.ref q1), some (.int a), some (.int b)] [] h with
      | none => rw [e] at hh; cases hh
      | some r' =>
        rw [e] at hh
        rw [hdet n r' e] at hh
        dsimp only at hh
        rw [ho] at hh
        exact ⟨n, r, hh, hP⟩
  · rintro ⟨n, r, hh, hP⟩
    refine ⟨max n0 n + 1, r, ?_, hP⟩
    rw [show d + 2 = d + 1 + 1 from rfl, hkal, key, ip_run_ups (Nat.le_max_left n0 n) (Nat.le_refl _) e0]
    dsimp only
    rw [ho]
    exact ip_run_ups (Nat.le_max_right n0 n) (Nat.le_refl _) hh
end P3
