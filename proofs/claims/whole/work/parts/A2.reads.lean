section E2
variable {L : Nat} {xs : Nat → Int32} {d : Nat} {P : Option Value → Hp → Prop} {I : Mi} {J : Mj} {R : Mr} {Z : Mz} {r c k l N M o n B : Nat} {x y z : Int32} {V : Vw}
def vLon (G : Gv) : Int32 := bm (gM G) fun c => decide (G 5 c = nI 0)
theorem k_lone (hG : okG (gI I)) : Wp L xs d 138 0 [some (.ref (64)), none, none] [] (mk I J R Z) P = P (some (.int (vLon (gI I)))) (mk I J R Z) := by
  have hM : I 76 2 = nI (gM (gI I)) := hG.2.1.1
  have h8 := hG.2.1.2
  simp (discharger := omega) only [↓w138_0, ↓w138_1, ↓w138_2, ↓w138_3, ↓w138_5, ↓w138_6, ↓w138_9, ↓w138_12, ↓w138_15, ↓w138_16, ↓w138_19, ↓w138_22, ↓w138_23, ↓w138_24, ↓w138_27, ↓w138_28, ↓w138_29, ↓w138_30, ↓w138_31, ↓w138_32, ↓w138_33, ↓w138_36, ↓w138_39, ↓w138_40, mul8, mul8', mul4, mul4', nI_add, inT, nclN, ltT, ltF, leT, leF, eqT, eqF, nzF, m1F, m1T, shr, shg, bI0, bI1, bo_bI, bo_1, bo_0, eq10, eq00, frT1, frT2, frT3, fit0, fit1, fit2, fit3, true_and, and_true, ↓reduceIte, Nat.reduceAdd, Nat.reduceMul, and_self, not_false_eq_true, not_true_eq_false, Nat.zero_add, Nat.add_zero]
  refine lp_any (T := Unit) (F := fun i acc _ => Wp L xs d 138 4 [some (.ref (64)), some (.int (acc)), some (.int (nI i))] [] (mk I J R Z) P) (B := fun c a => if decide (I 81 c = nI 0) = true then a ||| sg c else a) (G := fun q => P (some (.int q)) (mk I J R Z)) (gM (gI I)) ?_ ?_ (nI 0) ()
  · intro i acc t hi
    refine ⟨(), w138_4.trans ?_⟩
    simp (discharger := omega) only [↓w138_0, ↓w138_1, ↓w138_2, ↓w138_3, ↓w138_5, ↓w138_6, ↓w138_9, ↓w138_12, ↓w138_15, ↓w138_16, ↓w138_19, ↓w138_22, ↓w138_23, ↓w138_24, ↓w138_27, ↓w138_28, ↓w138_29, ↓w138_30, ↓w138_31, ↓w138_32, ↓w138_33, ↓w138_36, ↓w138_39, ↓w138_40, rc64, g64_0, g64_1, g64_2, g64_3, g64_4, g64_5, g64_6, g64_7, g64_8, g64_9, g64_10, g64_11, g64_12, rc76, g76_0, p76_0, g76_1, p76_1, g76_2, p76_2, g76_3, g76_4, g76_5, g76_6, g76_7, g76_8, gi81, si81, hM, mul8, mul8', mul4, mul4', nI_add, inT, nclN, ltT, ltF, leT, leF, eqT, eqF, nzF, m1F, m1T, shr, shg, bI0, bI1, bo_bI, bo_1, bo_0, eq10, eq00, frT1, frT2, frT3, fit0, fit1, fit2, fit3, true_and, and_true, ↓reduceIte, Nat.reduceAdd, Nat.reduceMul, and_self, not_false_eq_true, not_true_eq_false, Nat.zero_add, Nat.add_zero]
    by_cases h : I 81 i = nI 0 <;> simp [h]
  · intro acc t
    refine w138_4.trans ?_
    simp (discharger := omega) only [↓w138_0, ↓w138_1, ↓w138_2, ↓w138_3, ↓w138_5, ↓w138_6, ↓w138_9, ↓w138_12, ↓w138_15, ↓w138_16, ↓w138_19, ↓w138_22, ↓w138_23, ↓w138_24, ↓w138_27, ↓w138_28, ↓w138_29, ↓w138_30, ↓w138_31, ↓w138_32, ↓w138_33, ↓w138_36, ↓w138_39, ↓w138_40, rc64, g64_0, g64_1, g64_2, g64_3, g64_4, g64_5, g64_6, g64_7, g64_8, g64_9, g64_10, g64_11, g64_12, rc76, g76_0, p76_0, g76_1, p76_1, g76_2, p76_2, g76_3, g76_4, g76_5, g76_6, g76_7, g76_8, hM, mul8, mul8', mul4, mul4', nI_add, inT, nclN, ltT, ltF, leT, leF, eqT, eqF, nzF, m1F, m1T, shr, shg, bI0, bI1, bo_bI, bo_1, bo_0, eq10, eq00, frT1, frT2, frT3, fit0, fit1, fit2, fit3, true_and, and_true, ↓reduceIte, Nat.reduceAdd, Nat.reduceMul, and_self, not_false_eq_true, not_true_eq_false, Nat.zero_add, Nat.add_zero]
def hp1 (cl : Nat → Int32) (n : Nat) (S : Int32) : Int32 := lp (fun c a => if tb a c = true then a ||| cl c else a) n S
def vHea (G : Gv) (x : Int32) : Int32 := if isR (gM G) x = true then lp (fun _ S => hp1 (G 5) (gM G) S) 8 (sg x.toNatClampNeg) else -1
theorem k_heap (hG : okG (gI I)) : Wp L xs (d+1) 139 0 [some (.ref (64)), some (.int (x)), none, none, none] [] (mk I J R Z) P = P (some (.int (vHea (gI I) x))) (mk I J R Z) := by
  have hM : I 76 2 = nI (gM (gI I)) := hG.2.1.1
  have h8 := hG.2.1.2
  unfold vHea
  by_cases hx : isR (gM (gI I)) x = true
  · rw [if_pos hx]
    obtain ⟨c, hc, rfl⟩ := isR_t hx (by omega)
    rw [nI_clamp (by omega)]
    simp (discharger := omega) only [↓w139_0, ↓w139_1, ↓w139_2, ↓w139_5, ↓w139_8, ↓w139_9, ↓w139_10, ↓w139_11, ↓w139_12, ↓w139_13, ↓w139_14, ↓w139_15, ↓w139_17, ↓w139_19, ↓w139_22, ↓w139_23, ↓w139_27, ↓w139_28, ↓w139_31, ↓w139_34, ↓w139_37, ↓w139_38, ↓w139_40, ↓w139_41, ↓w139_42, ↓w139_43, ↓w139_46, ↓w139_47, ↓w139_48, ↓w139_51, ↓w139_54, ↓w139_56, ↓w139_57, ↓w139_58, ↓w139_59, ↓w139_62, ↓w139_65, ↓w139_68, ↓w139_71, ↓w139_72, ↓k_isCommand hM, hx, bI_t, ↓kc_i, ↓kc_l, ↓kc_r, ↓kc_n, rc64, g64_0, g64_1, g64_2, g64_3, g64_4, g64_5, g64_6, g64_7, g64_8, g64_9, g64_10, g64_11, g64_12, mul8, mul8', mul4, mul4', nI_add, inT, nclN, ltT, ltF, leT, leF, eqT, eqF, nzF, m1F, m1T, shr, shg, bI0, bI1, bo_bI, bo_1, bo_0, eq10, eq00, frT1, frT2, frT3, fit0, fit1, fit2, fit3, true_and, and_true, ↓reduceIte, Nat.reduceAdd, Nat.reduceMul, and_self, not_false_eq_true, not_true_eq_false, Nat.zero_add, Nat.add_zero]
    have hin : ∀ (S : Int32) (k : Nat), Wp L xs (d+1) 139 25 [some (.ref (64)), some (.int (nI c)), some (.int (S)), some (.int (nI k)), some (.int (nI 0))] [] (mk I J R Z) P = Wp L xs (d+1) 139 65 [some (.ref (64)), some (.int (nI c)), some (.int (hp1 (I 81) (gM (gI I)) S)), some (.int (nI k)), some (.int (nI (gM (gI I))))] [] (mk I J R Z) P := by
      intro S k
      refine lp_to (F := fun i a => Wp L xs (d+1) 139 25 [some (.ref (64)), some (.int (nI c)), some (.int (a)), some (.int (nI k)), some (.int (nI i))] [] (mk I J R Z) P) (B := fun c a => if tb a c = true then a ||| I 81 c else a) (gM (gI I)) S ?_ ?_
      · intro i a hi
        refine w139_25.trans ?_
        simp (discharger := omega) only [↓w139_0, ↓w139_1, ↓w139_2, ↓w139_5, ↓w139_8, ↓w139_9, ↓w139_10, ↓w139_11, ↓w139_12, ↓w139_13, ↓w139_14, ↓w139_15, ↓w139_17, ↓w139_19, ↓w139_22, ↓w139_23, ↓w139_27, ↓w139_28, ↓w139_31, ↓w139_34, ↓w139_37, ↓w139_38, ↓w139_40, ↓w139_41, ↓w139_42, ↓w139_43, ↓w139_46, ↓w139_47, ↓w139_48, ↓w139_51, ↓w139_54, ↓w139_56, ↓w139_57, ↓w139_58, ↓w139_59, ↓w139_62, ↓w139_68, ↓w139_71, ↓w139_72, rc64, g64_0, g64_1, g64_2, g64_3, g64_4, g64_5, g64_6, g64_7, g64_8, g64_9, g64_10, g64_11, g64_12, rc76, g76_0, p76_0, g76_1, p76_1, g76_2, p76_2, g76_3, g76_4, g76_5, g76_6, g76_7, g76_8, gi81, si81, hM, mul8, mul8', mul4, mul4', nI_add, inT, nclN, ltT, ltF, leT, leF, eqT, eqF, nzF, m1F, m1T, shr, shg, bI0, bI1, bo_bI, bo_1, bo_0, eq10, eq00, frT1, frT2, frT3, fit0, fit1, fit2, fit3, true_and, and_true, ↓reduceIte, Nat.reduceAdd, Nat.reduceMul, and_self, not_false_eq_true, not_true_eq_false, Nat.zero_add, Nat.add_zero]
        by_cases h : tb a i = true <;> simp [h]
      · refine w139_25.trans ?_
        simp (discharger := omega) only [↓w139_0, ↓w139_1, ↓w139_2, ↓w139_5, ↓w139_8, ↓w139_9, ↓w139_10, ↓w139_11, ↓w139_12, ↓w139_13, ↓w139_14, ↓w139_15, ↓w139_17, ↓w139_19, ↓w139_22, ↓w139_23, ↓w139_27, ↓w139_28, ↓w139_31, ↓w139_34, ↓w139_37, ↓w139_38, ↓w139_40, ↓w139_41, ↓w139_42, ↓w139_43, ↓w139_46, ↓w139_47, ↓w139_48, ↓w139_51, ↓w139_54, ↓w139_56, ↓w139_57, ↓w139_58, ↓w139_59, ↓w139_62, ↓w139_68, ↓w139_71, ↓w139_72, rc64, g64_0, g64_1, g64_2, g64_3, g64_4, g64_5, g64_6, g64_7, g64_8, g64_9, g64_10, g64_11, g64_12, rc76, g76_0, p76_0, g76_1, p76_1, g76_2, p76_2, g76_3, g76_4, g76_5, g76_6, g76_7, g76_8, hM, mul8, mul8', mul4, mul4', nI_add, inT, nclN, ltT, ltF, leT, leF, eqT, eqF, nzF, m1F, m1T, shr, shg, bI0, bI1, bo_bI, bo_1, bo_0, eq10, eq00, frT1, frT2, frT3, fit0, fit1, fit2, fit3, true_and, and_true, ↓reduceIte, Nat.reduceAdd, Nat.reduceMul, and_self, not_false_eq_true, not_true_eq_false, Nat.zero_add, Nat.add_zero]
        rfl
    refine lp_any (F := fun i S t => Wp L xs (d+1) 139 16 [some (.ref (64)), some (.int (nI c)), some (.int (S)), some (.int (nI i)), t] [] (mk I J R Z) P) (B := fun _ S => hp1 (I 81) (gM (gI I)) S) (G := fun q => P (some (.int q)) (mk I J R Z)) 8 ?_ ?_ (sg c) none
    · intro i S t hi
      refine ⟨some (.int (nI (gM (gI I)))), w139_16.trans ?_⟩
      simp (discharger := omega) only [↓w139_0, ↓w139_1, ↓w139_2, ↓w139_5, ↓w139_8, ↓w139_9, ↓w139_10, ↓w139_11, ↓w139_12, ↓w139_13, ↓w139_14, ↓w139_15, ↓w139_17, ↓w139_19, ↓w139_22, ↓w139_23, ↓w139_27, ↓w139_28, ↓w139_31, ↓w139_34, ↓w139_37, ↓w139_38, ↓w139_40, ↓w139_41, ↓w139_42, ↓w139_43, ↓w139_46, ↓w139_47, ↓w139_48, ↓w139_51, ↓w139_54, ↓w139_56, ↓w139_57, ↓w139_58, ↓w139_59, ↓w139_62, ↓w139_65, ↓w139_68, ↓w139_71, ↓w139_72, hin, mul8, mul8', mul4, mul4', nI_add, inT, nclN, ltT, ltF, leT, leF, eqT, eqF, nzF, m1F, m1T, shr, shg, bI0, bI1, bo_bI, bo_1, bo_0, eq10, eq00, frT1, frT2, frT3, fit0, fit1, fit2, fit3, true_and, and_true, ↓reduceIte, Nat.reduceAdd, Nat.reduceMul, and_self, not_false_eq_true, not_true_eq_false, Nat.zero_add, Nat.add_zero]
    · intro S t
      refine w139_16.trans ?_
      simp (discharger := omega) only [↓w139_0, ↓w139_1, ↓w139_2, ↓w139_5, ↓w139_8, ↓w139_9, ↓w139_10, ↓w139_11, ↓w139_12, ↓w139_13, ↓w139_14, ↓w139_15, ↓w139_17, ↓w139_19, ↓w139_22, ↓w139_23, ↓w139_27, ↓w139_28, ↓w139_31, ↓w139_34, ↓w139_37, ↓w139_38, ↓w139_40, ↓w139_41, ↓w139_42, ↓w139_43, ↓w139_46, ↓w139_47, ↓w139_48, ↓w139_51, ↓w139_54, ↓w139_56, ↓w139_57, ↓w139_58, ↓w139_59, ↓w139_62, ↓w139_65, ↓w139_68, ↓w139_71, ↓w139_72, mul8, mul8', mul4, mul4', nI_add, inT, nclN, ltT, ltF, leT, leF, eqT, eqF, nzF, m1F, m1T, shr, shg, bI0, bI1, bo_bI, bo_1, bo_0, eq10, eq00, frT1, frT2, frT3, fit0, fit1, fit2, fit3, true_and, and_true, ↓reduceIte, Nat.reduceAdd, Nat.reduceMul, and_self, not_false_eq_true, not_true_eq_false, Nat.zero_add, Nat.add_zero]
  · have hx' := Bool.eq_false_iff.mpr hx
    rw [if_neg hx]
    simp (discharger := omega) only [↓w139_0, ↓w139_1, ↓w139_2, ↓w139_5, ↓w139_8, ↓w139_9, ↓w139_10, ↓w139_11, ↓w139_12, ↓w139_13, ↓w139_14, ↓w139_15, ↓w139_17, ↓w139_19, ↓w139_22, ↓w139_23, ↓w139_27, ↓w139_28, ↓w139_31, ↓w139_34, ↓w139_37, ↓w139_38, ↓w139_40, ↓w139_41, ↓w139_42, ↓w139_43, ↓w139_46, ↓w139_47, ↓w139_48, ↓w139_51, ↓w139_54, ↓w139_56, ↓w139_57, ↓w139_58, ↓w139_59, ↓w139_62, ↓w139_65, ↓w139_68, ↓w139_71, ↓w139_72, ↓k_isCommand hM, hx', bI_f, ↓kc_i, ↓kc_l, ↓kc_r, ↓kc_n, rc64, g64_0, g64_1, g64_2, g64_3, g64_4, g64_5, g64_6, g64_7, g64_8, g64_9, g64_10, g64_11, g64_12, mul8, mul8', mul4, mul4', nI_add, inT, nclN, ltT, ltF, leT, leF, eqT, eqF, nzF, m1F, m1T, shr, shg, bI0, bI1, bo_bI, bo_1, bo_0, eq10, eq00, frT1, frT2, frT3, fit0, fit1, fit2, fit3, true_and, and_true, ↓reduceIte, Nat.reduceAdd, Nat.reduceMul, and_self, not_false_eq_true, not_true_eq_false, Nat.zero_add, Nat.add_zero]
def vUni (G : Gv) (V : Vw) (x y : Int32) : Int32 := if isR (gM G) x = true then (fun c => if y = nI 0 then usq (V 3) c (V 10 c) else if y = nI 1 then udp (V 4) c (V 10 c) else -1) x.toNatClampNeg else -1
theorem k_union (hG : okG (gI I)) : Wp L xs (d+2) 140 0 [some (.ref (64)), some (.int (x)), some (.int (y))] [] (mk I J R Z) P = P (some (.int (vUni (gI I) (vw I 102) x y))) (mk I J R Z) := by
  have hM : I 76 2 = nI (gM (gI I)) := hG.2.1.1
  have h8 := hG.2.1.2
  unfold vUni
  by_cases hx : isR (gM (gI I)) x = true
  · rw [if_pos hx]
    obtain ⟨c, hc, rfl⟩ := isR_t hx (by omega)
    rw [nI_clamp (by omega)]
    simp (discharger := omega) only [↓w140_0, ↓w140_1, ↓w140_2, ↓w140_5, ↓w140_8, ↓w140_9, ↓w140_10, ↓w140_11, ↓w140_36, ↓w140_37, ↓w140_40, ↓w140_41, ↓w140_42, ↓w140_45, ↓w140_48, ↓w140_49, ↓w140_50, ↓w140_53, ↓w140_54, ↓w140_55, ↓w140_58, ↓w140_59, ↓w140_60, ↓w140_63, ↓w140_66, ↓w140_67, ↓w140_68, ↓w140_71, ↓w140_72, ↓w140_73, ↓k_isCommand hM, ↓k_greatestSeq isS_102 (show c < 8 by omega), ↓k_allDeps isS_102 (show c < 8 by omega), hx, bI_t, ↓kc_i, ↓kc_l, ↓kc_r, ↓kc_n, rc64, g64_0, g64_1, g64_2, g64_3, g64_4, g64_5, g64_6, g64_7, g64_8, g64_9, g64_10, g64_11, g64_12, rc102, g102_0, p102_0, g102_1, p102_1, g102_2, g102_3, g102_4, g102_5, g102_6, g102_7, g102_8, g102_9, g102_10, g102_11, g102_12, gi112, si112, mul8, mul8', mul4, mul4', nI_add, inT, nclN, ltT, ltF, leT, leF, eqT, eqF, nzF, m1F, m1T, shr, shg, bI0, bI1, bo_bI, bo_1, bo_0, eq10, eq00, frT1, frT2, frT3, fit0, fit1, fit2, fit3, true_and, and_true, ↓reduceIte, Nat.reduceAdd, Nat.reduceMul, and_self, not_false_eq_true, not_true_eq_false, Nat.zero_add, Nat.add_zero]
    by_cases h0 : y = nI 0
    · simp only [h0, ↓reduceIte]; rfl
    · by_cases h1 : y = nI 1
      · simp only [h1, ↓reduceIte, mul8, mul8', mul4, mul4', nI_add, inT, nclN, ltT, ltF, leT, leF, eqT, eqF, nzF, m1F, m1T, shr, shg, bI0, bI1, bo_bI, bo_1, bo_0, eq10, eq00, frT1, frT2, frT3, fit0, fit1, fit2, fit3, true_and, and_true, ↓reduceIte, Nat.reduceAdd, Nat.reduceMul, and_self, not_false_eq_true, not_true_eq_false, Nat.zero_add, Nat.add_zero, show ¬ nI 1 = nI 0 by decide]; rfl
      · simp only [h0, h1, ↓reduceIte]
  · have hx' := Bool.eq_false_iff.mpr hx
    rw [if_neg hx]
    simp (discharger := omega) only [↓w140_0, ↓w140_1, ↓w140_2, ↓w140_5, ↓w140_8, ↓w140_9, ↓w140_10, ↓w140_11, ↓w140_36, ↓w140_37, ↓w140_40, ↓w140_41, ↓w140_42, ↓w140_45, ↓w140_48, ↓w140_49, ↓w140_50, ↓w140_53, ↓w140_54, ↓w140_55, ↓w140_58, ↓w140_59, ↓w140_60, ↓w140_63, ↓w140_66, ↓w140_67, ↓w140_68, ↓w140_71, ↓w140_72, ↓w140_73, ↓k_isCommand hM, hx', bI_f, ↓kc_i, ↓kc_l, ↓kc_r, ↓kc_n, rc64, g64_0, g64_1, g64_2, g64_3, g64_4, g64_5, g64_6, g64_7, g64_8, g64_9, g64_10, g64_11, g64_12, mul8, mul8', mul4, mul4', nI_add, inT, nclN, ltT, ltF, leT, leF, eqT, eqF, nzF, m1F, m1T, shr, shg, bI0, bI1, bo_bI, bo_1, bo_0, eq10, eq00, frT1, frT2, frT3, fit0, fit1, fit2, fit3, true_and, and_true, ↓reduceIte, Nat.reduceAdd, Nat.reduceMul, and_self, not_false_eq_true, not_true_eq_false, Nat.zero_add, Nat.add_zero]
def vQui (G : Gv) (V : Vw) (x : Int32) : Bool := isR (gM G) x && (cnd G V 2 x.toNatClampNeg 0 && atOnce (gN G) (V 3) (V 4) (V 10 x.toNatClampNeg) (gL G x.toNatClampNeg) x.toNatClampNeg)
theorem k_quick (hG : okG (gI I)) (hV : okV B (gI I) (vw I 102)) : Wp L xs (d+3) 141 0 [some (.ref (64)), some (.int (x))] [] (mk I J R Z) P = P (some (.int (bI (vQui (gI I) (vw I 102) x)))) (mk I J R Z) := by
  have hN : I 76 0 = nI (gN (gI I)) := hG.1.1
  have hM : I 76 2 = nI (gM (gI I)) := hG.2.1.1
  have h5 := hG.1.2
  have h8 := hG.2.1.2
  have hS := okV_S hG hV
  unfold vQui
  by_cases hx : isR (gM (gI I)) x = true
  · obtain ⟨c, hc, rfl⟩ := isR_t hx (by omega)
    rw [nI_clamp (by omega), hx]
    have hl : I 80 c = nI (gL (gI I) c) := (hG.2.2.1 c hc).1
    have hl5 : gL (gI I) c < 5 := by have := (hG.2.2.1 c hc).2; omega
    have ha : sm (I (102 + 10) c) := (hS.2.2.1 c hc).1
    have h1 := fun P => k_canDecide (L := L) (xs := xs) (d := d) (I := I) (J := J) (R := R) (Z := Z) (P := P) isS_102 (show c < 8 by omega) hN h5 hl hl5 ha
    have h2 := fun P => k_isDecidedAtOnce (L := L) (xs := xs) (d := d) (I := I) (J := J) (R := R) (Z := Z) (P := P) isS_102 (show c < 8 by omega) hN h5 hl hl5 ha
    simp (discharger := omega) only [↓w141_0, ↓w141_1, ↓w141_2, ↓w141_5, ↓w141_8, ↓w141_9, ↓w141_12, ↓w141_13, ↓w141_16, ↓w141_17, ↓w141_20, ↓w141_23, ↓w141_24, ↓w141_27, ↓w141_28, ↓w141_31, ↓w141_32, ↓w141_35, ↓w141_38, ↓w141_39, ↓w141_42, ↓w141_43, ↓k_isCommand hM, ↓h1, ↓h2, hx, bI_t, ↓kc_i, ↓kc_l, ↓kc_r, ↓kc_n, rc64, g64_0, g64_1, g64_2, g64_3, g64_4, g64_5, g64_6, g64_7, g64_8, g64_9, g64_10, g64_11, g64_12, rc128, g128_0, g128_1, g128_2, p128_2, g128_3, p128_3, mul8, mul8', mul4, mul4', nI_add, inT, nclN, ltT, ltF, leT, leF, eqT, eqF, nzF, m1F, m1T, shr, shg, bI0, bI1, bo_bI, bo_1, bo_0, eq10, eq00, frT1, frT2, frT3, fit0, fit1, fit2, fit3, true_and, and_true, ↓reduceIte, Nat.reduceAdd, Nat.reduceMul, and_self, not_false_eq_true, not_true_eq_false, Nat.zero_add, Nat.add_zero]
    show _ = P (some (.int (bI (true && ((askd (I 102 0) (I 103) (I 104) (gL (gI I) c) c && decide (mst (gN (gI I)) ≤ pcn (I 112 c))) && atOnce (gN (gI I)) (I 105) (I 106) (I 112 c) (gL (gI I) c) c))))) (mk I J R Z)
    cases (askd (I 102 0) (I 103) (I 104) (gL (gI I) c) c && decide (mst (gN (gI I)) ≤ pcn (I 112 c))) <;> cases atOnce (gN (gI I)) (I 105) (I 106) (I 112 c) (gL (gI I) c) c <;> simp [bI, bo_0, bo_1]
  · have hx' := Bool.eq_false_iff.mpr hx
    rw [hx']
    simp (discharger := omega) only [↓w141_0, ↓w141_1, ↓w141_2, ↓w141_5, ↓w141_8, ↓w141_9, ↓w141_12, ↓w141_13, ↓w141_16, ↓w141_17, ↓w141_20, ↓w141_23, ↓w141_24, ↓w141_27, ↓w141_28, ↓w141_31, ↓w141_32, ↓w141_35, ↓w141_38, ↓w141_39, ↓w141_42, ↓w141_43, ↓k_isCommand hM, hx', bI_f, ↓kc_i, ↓kc_l, ↓kc_r, ↓kc_n, rc64, g64_0, g64_1, g64_2, g64_3, g64_4, g64_5, g64_6, g64_7, g64_8, g64_9, g64_10, g64_11, g64_12, mul8, mul8', mul4, mul4', nI_add, inT, nclN, ltT, ltF, leT, leF, eqT, eqF, nzF, m1F, m1T, shr, shg, bI0, bI1, bo_bI, bo_1, bo_0, eq10, eq00, frT1, frT2, frT3, fit0, fit1, fit2, fit3, true_and, and_true, ↓reduceIte, Nat.reduceAdd, Nat.reduceMul, and_self, not_false_eq_true, not_true_eq_false, Nat.zero_add, Nat.add_zero]
    rfl
def vWai (G : Gv) (V : Vw) (x : Int32) : Int32 := if isR (gN G) x = true then (fun r => ors (gM G) (fun c => decide (V 1 (8 * r + c) = nI 3)) (fun c => V 4 (8 * r + c)) &&& (cAt (V 1) r (nI 3) (nI 4) ^^^ (-1))) x.toNatClampNeg else -1
theorem k_waits (hG : okG (gI I)) : Wp L xs (d+2) 142 0 [some (.ref (64)), some (.int (x)), none, none, none] [] (mk I J R Z) P = P (some (.int (vWai (gI I) (vw I 102) x))) (mk I J R Z) := by
  have hN : I 76 0 = nI (gN (gI I)) := hG.1.1
  have hM : I 76 2 = nI (gM (gI I)) := hG.2.1.1
  have h5 := hG.1.2
  have h8 := hG.2.1.2
  unfold vWai
  by_cases hx : isR (gN (gI I)) x = true
  · rw [if_pos hx]
    obtain ⟨r, hr, rfl⟩ := isR_t hx (by omega)
    rw [nI_clamp (by omega)]
    simp (discharger := omega) only [↓w142_0, ↓w142_1, ↓w142_2, ↓w142_5, ↓w142_8, ↓w142_9, ↓w142_10, ↓w142_11, ↓w142_12, ↓w142_13, ↓w142_15, ↓w142_16, ↓w142_19, ↓w142_22, ↓w142_25, ↓w142_26, ↓w142_27, ↓w142_30, ↓w142_32, ↓w142_33, ↓w142_36, ↓w142_39, ↓w142_41, ↓w142_42, ↓w142_43, ↓w142_46, ↓w142_47, ↓w142_48, ↓w142_51, ↓w142_54, ↓w142_56, ↓w142_57, ↓w142_58, ↓w142_59, ↓w142_62, ↓w142_65, ↓w142_66, ↓w142_67, ↓w142_70, ↓w142_71, ↓w142_72, ↓w142_73, ↓w142_76, ↓w142_77, ↓w142_78, ↓w142_79, ↓k_isReplica hN, hx, bI_t, ↓kc_i, ↓kc_l, ↓kc_r, ↓kc_n, rc64, g64_0, g64_1, g64_2, g64_3, g64_4, g64_5, g64_6, g64_7, g64_8, g64_9, g64_10, g64_11, g64_12, mul8, mul8', mul4, mul4', nI_add, inT, nclN, ltT, ltF, leT, leF, eqT, eqF, nzF, m1F, m1T, shr, shg, bI0, bI1, bo_bI, bo_1, bo_0, eq10, eq00, frT1, frT2, frT3, fit0, fit1, fit2, fit3, true_and, and_true, ↓reduceIte, Nat.reduceAdd, Nat.reduceMul, and_self, not_false_eq_true, not_true_eq_false, Nat.zero_add, Nat.add_zero]
    refine lp_any (F := fun i acc t => Wp L xs (d+2) 142 14 [some (.ref (64)), some (.int (nI r)), some (.int (acc)), some (.int (nI i)), t] [] (mk I J R Z) P) (B := fun c a => if decide (I 103 (8 * r + c) = nI 3) = true then a ||| I 106 (8 * r + c) else a) (G := fun q => P (some (.int (q &&& (cAt (I 103) r (nI 3) (nI 4) ^^^ (-1))))) (mk I J R Z)) (gM (gI I)) ?_ ?_ (nI 0) none
    · intro i acc t hi
      refine ⟨some (.int (nI (8 * r + i))), w142_14.trans ?_⟩
      simp (discharger := omega) only [↓w142_0, ↓w142_1, ↓w142_2, ↓w142_5, ↓w142_8, ↓w142_9, ↓w142_10, ↓w142_11, ↓w142_12, ↓w142_13, ↓w142_15, ↓w142_16, ↓w142_19, ↓w142_22, ↓w142_25, ↓w142_26, ↓w142_27, ↓w142_30, ↓w142_32, ↓w142_33, ↓w142_36, ↓w142_39, ↓w142_41, ↓w142_42, ↓w142_43, ↓w142_46, ↓w142_47, ↓w142_48, ↓w142_51, ↓w142_54, ↓w142_56, ↓w142_57, ↓w142_58, ↓w142_59, ↓w142_62, ↓w142_65, ↓w142_66, ↓w142_67, ↓w142_70, ↓w142_71, ↓w142_72, ↓w142_73, ↓w142_76, ↓w142_77, ↓w142_78, ↓w142_79, ↓k_cellOf, ↓kc_i, ↓kc_l, ↓kc_r, ↓kc_n, rc64, g64_0, g64_1, g64_2, g64_3, g64_4, g64_5, g64_6, g64_7, g64_8, g64_9, g64_10, g64_11, g64_12, rc76, g76_0, p76_0, g76_1, p76_1, g76_2, p76_2, g76_3, g76_4, g76_5, g76_6, g76_7, g76_8, rc102, g102_0, p102_0, g102_1, p102_1, g102_2, g102_3, g102_4, g102_5, g102_6, g102_7, g102_8, g102_9, g102_10, g102_11, g102_12, gi103, si103, gi106, si106, hM, mul8, mul8', mul4, mul4', nI_add, inT, nclN, ltT, ltF, leT, leF, eqT, eqF, nzF, m1F, m1T, shr, shg, bI0, bI1, bo_bI, bo_1, bo_0, eq10, eq00, frT1, frT2, frT3, fit0, fit1, fit2, fit3, true_and, and_true, ↓reduceIte, Nat.reduceAdd, Nat.reduceMul, and_self, not_false_eq_true, not_true_eq_false, Nat.zero_add, Nat.add_zero]
      by_cases h : I 103 (8 * r + i) = nI 3 <;> simp [h]
    · intro acc t
      refine w142_14.trans ?_
      simp (discharger := omega) only [↓w142_0, ↓w142_1, ↓w142_2, ↓w142_5, ↓w142_8, ↓w142_9, ↓w142_10, ↓w142_11, ↓w142_12, ↓w142_13, ↓w142_15, ↓w142_16, ↓w142_19, ↓w142_22, ↓w142_25, ↓w142_26, ↓w142_27, ↓w142_30, ↓w142_32, ↓w142_33, ↓w142_36, ↓w142_39, ↓w142_41, ↓w142_42, ↓w142_43, ↓w142_46, ↓w142_47, ↓w142_48, ↓w142_51, ↓w142_54, ↓w142_56, ↓w142_57, ↓w142_58, ↓w142_59, ↓w142_62, ↓w142_65, ↓w142_66, ↓w142_67, ↓w142_70, ↓w142_71, ↓w142_72, ↓w142_73, ↓w142_76, ↓w142_77, ↓w142_78, ↓w142_79, ↓k_commandsAt' isS_102 (show r < 5 by omega), ↓kc_i, ↓kc_l, ↓kc_r, ↓kc_n, rc64, g64_0, g64_1, g64_2, g64_3, g64_4, g64_5, g64_6, g64_7, g64_8, g64_9, g64_10, g64_11, g64_12, rc76, g76_0, p76_0, g76_1, p76_1, g76_2, p76_2, g76_3, g76_4, g76_5, g76_6, g76_7, g76_8, rc102, g102_0, p102_0, g102_1, p102_1, g102_2, g102_3, g102_4, g102_5, g102_6, g102_7, g102_8, g102_9, g102_10, g102_11, g102_12, hM, mul8, mul8', mul4, mul4', nI_add, inT, nclN, ltT, ltF, leT, leF, eqT, eqF, nzF, m1F, m1T, shr, shg, bI0, bI1, bo_bI, bo_1, bo_0, eq10, eq00, frT1, frT2, frT3, fit0, fit1, fit2, fit3, true_and, and_true, ↓reduceIte, Nat.reduceAdd, Nat.reduceMul, and_self, not_false_eq_true, not_true_eq_false, Nat.zero_add, Nat.add_zero]
  · have hx' := Bool.eq_false_iff.mpr hx
    rw [if_neg hx]
    simp (discharger := omega) only [↓w142_0, ↓w142_1, ↓w142_2, ↓w142_5, ↓w142_8, ↓w142_9, ↓w142_10, ↓w142_11, ↓w142_12, ↓w142_13, ↓w142_15, ↓w142_16, ↓w142_19, ↓w142_22, ↓w142_25, ↓w142_26, ↓w142_27, ↓w142_30, ↓w142_32, ↓w142_33, ↓w142_36, ↓w142_39, ↓w142_41, ↓w142_42, ↓w142_43, ↓w142_46, ↓w142_47, ↓w142_48, ↓w142_51, ↓w142_54, ↓w142_56, ↓w142_57, ↓w142_58, ↓w142_59, ↓w142_62, ↓w142_65, ↓w142_66, ↓w142_67, ↓w142_70, ↓w142_71, ↓w142_72, ↓w142_73, ↓w142_76, ↓w142_77, ↓w142_78, ↓w142_79, ↓k_isReplica hN, hx', bI_f, ↓kc_i, ↓kc_l, ↓kc_r, ↓kc_n, rc64, g64_0, g64_1, g64_2, g64_3, g64_4, g64_5, g64_6, g64_7, g64_8, g64_9, g64_10, g64_11, g64_12, mul8, mul8', mul4, mul4', nI_add, inT, nclN, ltT, ltF, leT, leF, eqT, eqF, nzF, m1F, m1T, shr, shg, bI0, bI1, bo_bI, bo_1, bo_0, eq10, eq00, frT1, frT2, frT3, fit0, fit1, fit2, fit3, true_and, and_true, ↓reduceIte, Nat.reduceAdd, Nat.reduceMul, and_self, not_false_eq_true, not_true_eq_false, Nat.zero_add, Nat.add_zero]
def onA (N : Nat) (V : Vw) (c : Nat) : Bool := match ff 8 (tb (rW (V 1) c (nI 3) (nI 4))) with
  | none => true
  | some t => al_ N fun r => tb (rW (V 1) c (nI 3) (nI 4)) r && !sameAt (V 3) (V 4) (8 * t + c) (8 * r + c)
def vOne (G : Gv) (V : Vw) (x : Int32) : Bool := isR (gM G) x && onA (gN G) V x.toNatClampNeg
theorem sm_rW {f1 : Nat → Int32} {p q : Int32} : sm (rW f1 c p q) := sm_bm (by decide)
theorem k_one (hG : okG (gI I)) : Wp L xs (d+2) 146 0 [some (.ref (64)), some (.int (x)), none, none, none] [] (mk I J R Z) P = P (some (.int (bI (vOne (gI I) (vw I 102) x)))) (mk I J R Z) := by
  have hN : I 76 0 = nI (gN (gI I)) := hG.1.1
  have hM : I 76 2 = nI (gM (gI I)) := hG.2.1.1
  have h5 := hG.1.2
  have h8 := hG.2.1.2
  unfold vOne
  by_cases hx : isR (gM (gI I)) x = true
  · obtain ⟨c, hc, rfl⟩ := isR_t hx (by omega)
    rw [nI_clamp (by omega), hx, Bool.true_and]
    have hc8 : c < 8 := by omega
    simp (discharger := omega) only [↓w146_0, ↓w146_1, ↓w146_2, ↓w146_5, ↓w146_8, ↓w146_9, ↓w146_10, ↓w146_11, ↓w146_14, ↓w146_15, ↓w146_16, ↓w146_17, ↓w146_20, ↓w146_21, ↓w146_22, ↓w146_25, ↓w146_26, ↓w146_27, ↓w146_31, ↓w146_32, ↓w146_35, ↓w146_38, ↓w146_41, ↓w146_42, ↓w146_44, ↓w146_45, ↓w146_46, ↓w146_47, ↓w146_50, ↓w146_51, ↓w146_54, ↓w146_55, ↓w146_56, ↓w146_58, ↓w146_61, ↓w146_64, ↓w146_65, ↓w146_66, ↓w146_69, ↓w146_72, ↓w146_73, ↓k_isCommand hM, ↓k_replicasWith' isS_102 hc8, ↓k_firstOf sm_rW, hx, bI_t, ↓kc_i, ↓kc_l, ↓kc_r, ↓kc_n, rc64, g64_0, g64_1, g64_2, g64_3, g64_4, g64_5, g64_6, g64_7, g64_8, g64_9, g64_10, g64_11, g64_12, rc102, g102_0, p102_0, g102_1, p102_1, g102_2, g102_3, g102_4, g102_5, g102_6, g102_7, g102_8, g102_9, g102_10, g102_11, g102_12, mul8, mul8', mul4, mul4', nI_add, inT, nclN, ltT, ltF, leT, leF, eqT, eqF, nzF, m1F, m1T, shr, shg, bI0, bI1, bo_bI, bo_1, bo_0, eq10, eq00, frT1, frT2, frT3, fit0, fit1, fit2, fit3, true_and, and_true, ↓reduceIte, Nat.reduceAdd, Nat.reduceMul, and_self, not_false_eq_true, not_true_eq_false, Nat.zero_add, Nat.add_zero]
    show _ = P (some (.int (bI (onA (gN (gI I)) (vw I 102) c)))) (mk I J R Z)
    unfold onA
    show _ = P (some (.int (bI (match ff 8 (tb (rW (I 103) c (nI 3) (nI 4))) with
      | none => true
      | some t => al_ (gN (gI I)) fun r => tb (rW (I 103) c (nI 3) (nI 4)) r && !sameAt (I 105) (I 106) (8 * t + c) (8 * r + c))))) (mk I J R Z)
    generalize hb : rW (I 103) c (nI 3) (nI 4) = bits
    cases ht : ff 8 (tb bits) with
    | none =>
      have hz : ∀ i, i < 8 → tb bits i = false := ff_none.mp ht
      refine (ff_anyB (T := Unit) (F := fun i _ => Wp L xs (d+2) 146 29 [some (.ref (64)), some (.int (nI c)), some (.int (bits)), some (.int (-1)), some (.int (nI i))] [] (mk I J R Z) P) (p := fun _ => false) (G := fun v => P (some (.int v)) (mk I J R Z)) (gN (gI I)) ?_ ?_ ()).trans ?_
      · intro i t hi
        refine ⟨(), w146_29.trans ?_⟩
        simp (discharger := omega) only [↓w146_0, ↓w146_1, ↓w146_2, ↓w146_5, ↓w146_8, ↓w146_9, ↓w146_10, ↓w146_11, ↓w146_14, ↓w146_15, ↓w146_16, ↓w146_17, ↓w146_20, ↓w146_21, ↓w146_22, ↓w146_25, ↓w146_26, ↓w146_27, ↓w146_31, ↓w146_32, ↓w146_35, ↓w146_38, ↓w146_41, ↓w146_42, ↓w146_44, ↓w146_45, ↓w146_46, ↓w146_47, ↓w146_50, ↓w146_51, ↓w146_54, ↓w146_55, ↓w146_56, ↓w146_58, ↓w146_61, ↓w146_64, ↓w146_65, ↓w146_66, ↓w146_69, ↓w146_72, ↓w146_73, rc64, g64_0, g64_1, g64_2, g64_3, g64_4, g64_5, g64_6, g64_7, g64_8, g64_9, g64_10, g64_11, g64_12, rc76, g76_0, p76_0, g76_1, p76_1, g76_2, p76_2, g76_3, g76_4, g76_5, g76_6, g76_7, g76_8, hN, mul8, mul8', mul4, mul4', nI_add, inT, nclN, ltT, ltF, leT, leF, eqT, eqF, nzF, m1F, m1T, shr, shg, bI0, bI1, bo_bI, bo_1, bo_0, eq10, eq00, frT1, frT2, frT3, fit0, fit1, fit2, fit3, true_and, and_true, ↓reduceIte, Nat.reduceAdd, Nat.reduceMul, and_self, not_false_eq_true, not_true_eq_false, Nat.zero_add, Nat.add_zero, hz i (by omega)]
        simp
      · intro t
        refine w146_29.trans ?_
        simp (discharger := omega) only [↓w146_0, ↓w146_1, ↓w146_2, ↓w146_5, ↓w146_8, ↓w146_9, ↓w146_10, ↓w146_11, ↓w146_14, ↓w146_15, ↓w146_16, ↓w146_17, ↓w146_20, ↓w146_21, ↓w146_22, ↓w146_25, ↓w146_26, ↓w146_27, ↓w146_31, ↓w146_32, ↓w146_35, ↓w146_38, ↓w146_41, ↓w146_42, ↓w146_44, ↓w146_45, ↓w146_46, ↓w146_47, ↓w146_50, ↓w146_51, ↓w146_54, ↓w146_55, ↓w146_56, ↓w146_58, ↓w146_61, ↓w146_64, ↓w146_65, ↓w146_66, ↓w146_69, ↓w146_72, ↓w146_73, rc64, g64_0, g64_1, g64_2, g64_3, g64_4, g64_5, g64_6, g64_7, g64_8, g64_9, g64_10, g64_11, g64_12, rc76, g76_0, p76_0, g76_1, p76_1, g76_2, p76_2, g76_3, g76_4, g76_5, g76_6, g76_7, g76_8, hN, mul8, mul8', mul4, mul4', nI_add, inT, nclN, ltT, ltF, leT, leF, eqT, eqF, nzF, m1F, m1T, shr, shg, bI0, bI1, bo_bI, bo_1, bo_0, eq10, eq00, frT1, frT2, frT3, fit0, fit1, fit2, fit3, true_and, and_true, ↓reduceIte, Nat.reduceAdd, Nat.reduceMul, and_self, not_false_eq_true, not_true_eq_false, Nat.zero_add, Nat.add_zero]
      · have : al_ (gN (gI I)) (fun _ => false) = true := by unfold al_; rw [ff_none.mpr (fun _ _ => rfl)]; rfl
        rw [this]
    | some t =>
      have ht5 : t < 5 := by
        have := (ff_some.mp ht).2.1
        rw [← hb, tb_rW] at this
        simp at this; exact this.1
      refine ff_anyB (T := Unit) (F := fun i _ => Wp L xs (d+2) 146 29 [some (.ref (64)), some (.int (nI c)), some (.int (bits)), some (.int (nI t)), some (.int (nI i))] [] (mk I J R Z) P) (p := fun r => tb bits r && !sameAt (I 105) (I 106) (8 * t + c) (8 * r + c)) (G := fun v => P (some (.int v)) (mk I J R Z)) (gN (gI I)) ?_ ?_ ()
      · intro i u hi
        refine ⟨(), w146_29.trans ?_⟩
        simp (discharger := omega) only [↓w146_0, ↓w146_1, ↓w146_2, ↓w146_5, ↓w146_8, ↓w146_9, ↓w146_10, ↓w146_11, ↓w146_14, ↓w146_15, ↓w146_16, ↓w146_17, ↓w146_20, ↓w146_21, ↓w146_22, ↓w146_25, ↓w146_26, ↓w146_27, ↓w146_31, ↓w146_32, ↓w146_35, ↓w146_38, ↓w146_41, ↓w146_42, ↓w146_44, ↓w146_45, ↓w146_46, ↓w146_47, ↓w146_50, ↓w146_51, ↓w146_54, ↓w146_55, ↓w146_56, ↓w146_58, ↓w146_61, ↓w146_64, ↓w146_65, ↓w146_66, ↓w146_69, ↓w146_72, ↓w146_73, ↓k_isSame isS_102 hc8, ↓kc_i, ↓kc_l, ↓kc_r, ↓kc_n, rc64, g64_0, g64_1, g64_2, g64_3, g64_4, g64_5, g64_6, g64_7, g64_8, g64_9, g64_10, g64_11, g64_12, rc76, g76_0, p76_0, g76_1, p76_1, g76_2, p76_2, g76_3, g76_4, g76_5, g76_6, g76_7, g76_8, rc102, g102_0, p102_0, g102_1, p102_1, g102_2, g102_3, g102_4, g102_5, g102_6, g102_7, g102_8, g102_9, g102_10, g102_11, g102_12, hN, mul8, mul8', mul4, mul4', nI_add, inT, nclN, ltT, ltF, leT, leF, eqT, eqF, nzF, m1F, m1T, shr, shg, bI0, bI1, bo_bI, bo_1, bo_0, eq10, eq00, frT1, frT2, frT3, fit0, fit1, fit2, fit3, true_and, and_true, ↓reduceIte, Nat.reduceAdd, Nat.reduceMul, and_self, not_false_eq_true, not_true_eq_false, Nat.zero_add, Nat.add_zero]
        cases tb bits i <;> cases sameAt (I 105) (I 106) (8 * t + c) (8 * i + c) <;> simp
      · intro u
        refine w146_29.trans ?_
        simp (discharger := omega) only [↓w146_0, ↓w146_1, ↓w146_2, ↓w146_5, ↓w146_8, ↓w146_9, ↓w146_10, ↓w146_11, ↓w146_14, ↓w146_15, ↓w146_16, ↓w146_17, ↓w146_20, ↓w146_21, ↓w146_22, ↓w146_25, ↓w146_26, ↓w146_27, ↓w146_31, ↓w146_32, ↓w146_35, ↓w146_38, ↓w146_41, ↓w146_42, ↓w146_44, ↓w146_45, ↓w146_46, ↓w146_47, ↓w146_50, ↓w146_51, ↓w146_54, ↓w146_55, ↓w146_56, ↓w146_58, ↓w146_61, ↓w146_64, ↓w146_65, ↓w146_66, ↓w146_69, ↓w146_72, ↓w146_73, rc64, g64_0, g64_1, g64_2, g64_3, g64_4, g64_5, g64_6, g64_7, g64_8, g64_9, g64_10, g64_11, g64_12, rc76, g76_0, p76_0, g76_1, p76_1, g76_2, p76_2, g76_3, g76_4, g76_5, g76_6, g76_7, g76_8, hN, mul8, mul8', mul4, mul4', nI_add, inT, nclN, ltT, ltF, leT, leF, eqT, eqF, nzF, m1F, m1T, shr, shg, bI0, bI1, bo_bI, bo_1, bo_0, eq10, eq00, frT1, frT2, frT3, fit0, fit1, fit2, fit3, true_and, and_true, ↓reduceIte, Nat.reduceAdd, Nat.reduceMul, and_self, not_false_eq_true, not_true_eq_false, Nat.zero_add, Nat.add_zero]
  · have hx' := Bool.eq_false_iff.mpr hx
    rw [hx']
    simp (discharger := omega) only [↓w146_0, ↓w146_1, ↓w146_2, ↓w146_5, ↓w146_8, ↓w146_9, ↓w146_10, ↓w146_11, ↓w146_14, ↓w146_15, ↓w146_16, ↓w146_17, ↓w146_20, ↓w146_21, ↓w146_22, ↓w146_25, ↓w146_26, ↓w146_27, ↓w146_31, ↓w146_32, ↓w146_35, ↓w146_38, ↓w146_41, ↓w146_42, ↓w146_44, ↓w146_45, ↓w146_46, ↓w146_47, ↓w146_50, ↓w146_51, ↓w146_54, ↓w146_55, ↓w146_56, ↓w146_58, ↓w146_61, ↓w146_64, ↓w146_65, ↓w146_66, ↓w146_69, ↓w146_72, ↓w146_73, ↓k_isCommand hM, hx', bI_f, ↓kc_i, ↓kc_l, ↓kc_r, ↓kc_n, rc64, g64_0, g64_1, g64_2, g64_3, g64_4, g64_5, g64_6, g64_7, g64_8, g64_9, g64_10, g64_11, g64_12, mul8, mul8', mul4, mul4', nI_add, inT, nclN, ltT, ltF, leT, leF, eqT, eqF, nzF, m1F, m1T, shr, shg, bI0, bI1, bo_bI, bo_1, bo_0, eq10, eq00, frT1, frT2, frT3, fit0, fit1, fit2, fit3, true_and, and_true, ↓reduceIte, Nat.reduceAdd, Nat.reduceMul, and_self, not_false_eq_true, not_true_eq_false, Nat.zero_add, Nat.add_zero]
    rfl
def vAgr (G : Gv) (V : Vw) (x y : Int32) : Bool := isR (gN G) x && (isR (gN G) y && (fun r o => agr (gM G) (G 5) (V 1) (V 6) (pcn (rn (V 1) r)) (pcn (rn (V 1) o)) r o) x.toNatClampNeg y.toNatClampNeg)
theorem k_agree (hG : okG (gI I)) (hV : okV B (gI I) (vw I 102)) : Wp L xs (d+4) 147 0 [some (.ref (64)), some (.int (x)), some (.int (y))] [] (mk I J R Z) P = P (some (.int (bI (vAgr (gI I) (vw I 102) x y)))) (mk I J R Z) := by
  have hN : I 76 0 = nI (gN (gI I)) := hG.1.1
  have hM : I 76 2 = nI (gM (gI I)) := hG.2.1.1
  have h5 := hG.1.2
  have h8 := hG.2.1.2
  unfold vAgr
  by_cases hx : isR (gN (gI I)) x = true
  · by_cases hy : isR (gN (gI I)) y = true
    · obtain ⟨r, hr, rfl⟩ := isR_t hx (by omega)
      obtain ⟨o, ho, rfl⟩ := isR_t hy (by omega)
      rw [nI_clamp (by omega), nI_clamp (by omega), hx, hy, Bool.true_and, Bool.true_and]
      have e1 : I (102 + 7) r = nI (pcn (rn (I 103) r)) := (hV.2.1.2.2.2.2.2 r (by omega))
      have e2 : I (102 + 7) o = nI (pcn (rn (I 103) o)) := (hV.2.1.2.2.2.2.2 o (by omega))
      have h1 := fun P => k_isAgreed (L := L) (xs := xs) (d := d) (I := I) (J := J) (R := R) (Z := Z) (P := P) isS_102 (show r < 5 by omega) (show o < 5 by omega) hM h8 e1 pcn_le e2 pcn_le
      simp (discharger := omega) only [↓w147_0, ↓w147_1, ↓w147_2, ↓w147_5, ↓w147_8, ↓w147_9, ↓w147_10, ↓w147_13, ↓w147_16, ↓w147_17, ↓w147_20, ↓w147_21, ↓w147_24, ↓w147_25, ↓w147_26, ↓w147_29, ↓w147_32, ↓w147_33, ↓w147_36, ↓w147_37, ↓k_isReplica hN, ↓h1, hx, hy, bI_t, ↓kc_i, ↓kc_l, ↓kc_r, ↓kc_n, rc64, g64_0, g64_1, g64_2, g64_3, g64_4, g64_5, g64_6, g64_7, g64_8, g64_9, g64_10, g64_11, g64_12, rc126, g126_0, g126_1, g126_2, p126_2, rc102, g102_0, p102_0, g102_1, p102_1, g102_2, g102_3, g102_4, g102_5, g102_6, g102_7, g102_8, g102_9, g102_10, g102_11, g102_12, mul8, mul8', mul4, mul4', nI_add, inT, nclN, ltT, ltF, leT, leF, eqT, eqF, nzF, m1F, m1T, shr, shg, bI0, bI1, bo_bI, bo_1, bo_0, eq10, eq00, frT1, frT2, frT3, fit0, fit1, fit2, fit3, true_and, and_true, ↓reduceIte, Nat.reduceAdd, Nat.reduceMul, and_self, not_false_eq_true, not_true_eq_false, Nat.zero_add, Nat.add_zero]
      show _ = P (some (.int (bI (agr (gM (gI I)) (I 81) (I 103) (I 108) (pcn (rn (I 103) r)) (pcn (rn (I 103) o)) r o)))) (mk I J R Z)
      cases agr (gM (gI I)) (I 81) (I 103) (I 108) (pcn (rn (I 103) r)) (pcn (rn (I 103) o)) r o <;> simp [bI, bo_0, bo_1]
    · have hy' := Bool.eq_false_iff.mpr hy
      rw [hx, hy']
      simp (discharger := omega) only [↓w147_0, ↓w147_1, ↓w147_2, ↓w147_5, ↓w147_8, ↓w147_9, ↓w147_10, ↓w147_13, ↓w147_16, ↓w147_17, ↓w147_20, ↓w147_21, ↓w147_24, ↓w147_25, ↓w147_26, ↓w147_29, ↓w147_32, ↓w147_33, ↓w147_36, ↓w147_37, ↓k_isReplica hN, hx, hy', bI_t, bI_f, ↓kc_i, ↓kc_l, ↓kc_r, ↓kc_n, rc64, g64_0, g64_1, g64_2, g64_3, g64_4, g64_5, g64_6, g64_7, g64_8, g64_9, g64_10, g64_11, g64_12, mul8, mul8', mul4, mul4', nI_add, inT, nclN, ltT, ltF, leT, leF, eqT, eqF, nzF, m1F, m1T, shr, shg, bI0, bI1, bo_bI, bo_1, bo_0, eq10, eq00, frT1, frT2, frT3, fit0, fit1, fit2, fit3, true_and, and_true, ↓reduceIte, Nat.reduceAdd, Nat.reduceMul, and_self, not_false_eq_true, not_true_eq_false, Nat.zero_add, Nat.add_zero]
      rfl
  · have hx' := Bool.eq_false_iff.mpr hx
    rw [hx']
    simp (discharger := omega) only [↓w147_0, ↓w147_1, ↓w147_2, ↓w147_5, ↓w147_8, ↓w147_9, ↓w147_10, ↓w147_13, ↓w147_16, ↓w147_17, ↓w147_20, ↓w147_21, ↓w147_24, ↓w147_25, ↓w147_26, ↓w147_29, ↓w147_32, ↓w147_33, ↓w147_36, ↓w147_37, ↓k_isReplica hN, hx', bI_f, ↓kc_i, ↓kc_l, ↓kc_r, ↓kc_n, rc64, g64_0, g64_1, g64_2, g64_3, g64_4, g64_5, g64_6, g64_7, g64_8, g64_9, g64_10, g64_11, g64_12, mul8, mul8', mul4, mul4', nI_add, inT, nclN, ltT, ltF, leT, leF, eqT, eqF, nzF, m1F, m1T, shr, shg, bI0, bI1, bo_bI, bo_1, bo_0, eq10, eq00, frT1, frT2, frT3, fit0, fit1, fit2, fit3, true_and, and_true, ↓reduceIte, Nat.reduceAdd, Nat.reduceMul, and_self, not_false_eq_true, not_true_eq_false, Nat.zero_add, Nat.add_zero]
    rfl
def vBef (G : Gv) (V : Vw) (x y z : Int32) : Bool := isR (gN G) x && (isR (gM G) y && (isR (gM G) z && isb (V 6) (pcn (rn (V 1) x.toNatClampNeg)) x.toNatClampNeg y.toNatClampNeg z.toNatClampNeg))
theorem k_before (hG : okG (gI I)) (hV : okV B (gI I) (vw I 102)) : Wp L xs (d+3) 148 0 [some (.ref (64)), some (.int (x)), some (.int (y)), some (.int (z))] [] (mk I J R Z) P = P (some (.int (bI (vBef (gI I) (vw I 102) x y z)))) (mk I J R Z) := by
  have hN : I 76 0 = nI (gN (gI I)) := hG.1.1
  have hM : I 76 2 = nI (gM (gI I)) := hG.2.1.1
  have h5 := hG.1.2
  have h8 := hG.2.1.2
  unfold vBef
  by_cases hx : isR (gN (gI I)) x = true
  · by_cases hy : isR (gM (gI I)) y = true
    · by_cases hz : isR (gM (gI I)) z = true
      · obtain ⟨r, hr, rfl⟩ := isR_t hx (by omega)
        obtain ⟨c, hc, rfl⟩ := isR_t hy (by omega)
        obtain ⟨o, ho, rfl⟩ := isR_t hz (by omega)
        rw [nI_clamp (by omega), nI_clamp (by omega), nI_clamp (by omega), hx, hy, hz, Bool.true_and, Bool.true_and, Bool.true_and]
        have e1 : I (102 + 7) r = nI (pcn (rn (I 103) r)) := (hV.2.1.2.2.2.2.2 r (by omega))
        have h1 := fun P => k_isBefore (L := L) (xs := xs) (d := d) (I := I) (J := J) (R := R) (Z := Z) (P := P) isS_102 (show r < 5 by omega) e1 pcn_le (show c < 8 by omega) (show o < 8 by omega)
        simp (discharger := omega) only [↓w148_0, ↓w148_1, ↓w148_2, ↓w148_5, ↓w148_8, ↓w148_9, ↓w148_10, ↓w148_13, ↓w148_16, ↓w148_17, ↓w148_18, ↓w148_21, ↓w148_24, ↓w148_25, ↓w148_26, ↓w148_27, ↓w148_30, ↓w148_31, ↓w148_32, ↓w148_33, ↓w148_36, ↓k_isReplica hN, ↓k_isCommand hM, ↓h1, hx, hy, hz, bI_t, ↓kc_i, ↓kc_l, ↓kc_r, ↓kc_n, rc64, g64_0, g64_1, g64_2, g64_3, g64_4, g64_5, g64_6, g64_7, g64_8, g64_9, g64_10, g64_11, g64_12, rc102, g102_0, p102_0, g102_1, p102_1, g102_2, g102_3, g102_4, g102_5, g102_6, g102_7, g102_8, g102_9, g102_10, g102_11, g102_12, mul8, mul8', mul4, mul4', nI_add, inT, nclN, ltT, ltF, leT, leF, eqT, eqF, nzF, m1F, m1T, shr, shg, bI0, bI1, bo_bI, bo_1, bo_0, eq10, eq00, frT1, frT2, frT3, fit0, fit1, fit2, fit3, true_and, and_true, ↓reduceIte, Nat.reduceAdd, Nat.reduceMul, and_self, not_false_eq_true, not_true_eq_false, Nat.zero_add, Nat.add_zero]
        rfl
      · have hz' := Bool.eq_false_iff.mpr hz
        rw [hx, hy, hz']
        simp (discharger := omega) only [↓w148_0, ↓w148_1, ↓w148_2, ↓w148_5, ↓w148_8, ↓w148_9, ↓w148_10, ↓w148_13, ↓w148_16, ↓w148_17, ↓w148_18, ↓w148_21, ↓w148_24, ↓w148_25, ↓w148_26, ↓w148_27, ↓w148_30, ↓w148_31, ↓w148_32, ↓w148_33, ↓w148_36, ↓k_isReplica hN, ↓k_isCommand hM, hx, hy, hz', bI_t, bI_f, ↓kc_i, ↓kc_l, ↓kc_r, ↓kc_n, rc64, g64_0, g64_1, g64_2, g64_3, g64_4, g64_5, g64_6, g64_7, g64_8, g64_9, g64_10, g64_11, g64_12, mul8, mul8', mul4, mul4', nI_add, inT, nclN, ltT, ltF, leT, leF, eqT, eqF, nzF, m1F, m1T, shr, shg, bI0, bI1, bo_bI, bo_1, bo_0, eq10, eq00, frT1, frT2, frT3, fit0, fit1, fit2, fit3, true_and, and_true, ↓reduceIte, Nat.reduceAdd, Nat.reduceMul, and_self, not_false_eq_true, not_true_eq_false, Nat.zero_add, Nat.add_zero]
        rfl
    · have hy' := Bool.eq_false_iff.mpr hy
      rw [hx, hy']
      simp (discharger := omega) only [↓w148_0, ↓w148_1, ↓w148_2, ↓w148_5, ↓w148_8, ↓w148_9, ↓w148_10, ↓w148_13, ↓w148_16, ↓w148_17, ↓w148_18, ↓w148_21, ↓w148_24, ↓w148_25, ↓w148_26, ↓w148_27, ↓w148_30, ↓w148_31, ↓w148_32, ↓w148_33, ↓w148_36, ↓k_isReplica hN, ↓k_isCommand hM, hx, hy', bI_t, bI_f, ↓kc_i, ↓kc_l, ↓kc_r, ↓kc_n, rc64, g64_0, g64_1, g64_2, g64_3, g64_4, g64_5, g64_6, g64_7, g64_8, g64_9, g64_10, g64_11, g64_12, mul8, mul8', mul4, mul4', nI_add, inT, nclN, ltT, ltF, leT, leF, eqT, eqF, nzF, m1F, m1T, shr, shg, bI0, bI1, bo_bI, bo_1, bo_0, eq10, eq00, frT1, frT2, frT3, fit0, fit1, fit2, fit3, true_and, and_true, ↓reduceIte, Nat.reduceAdd, Nat.reduceMul, and_self, not_false_eq_true, not_true_eq_false, Nat.zero_add, Nat.add_zero]
      rfl
  · have hx' := Bool.eq_false_iff.mpr hx
    rw [hx']
    simp (discharger := omega) only [↓w148_0, ↓w148_1, ↓w148_2, ↓w148_5, ↓w148_8, ↓w148_9, ↓w148_10, ↓w148_13, ↓w148_16, ↓w148_17, ↓w148_18, ↓w148_21, ↓w148_24, ↓w148_25, ↓w148_26, ↓w148_27, ↓w148_30, ↓w148_31, ↓w148_32, ↓w148_33, ↓w148_36, ↓k_isReplica hN, hx', bI_f, ↓kc_i, ↓kc_l, ↓kc_r, ↓kc_n, rc64, g64_0, g64_1, g64_2, g64_3, g64_4, g64_5, g64_6, g64_7, g64_8, g64_9, g64_10, g64_11, g64_12, mul8, mul8', mul4, mul4', nI_add, inT, nclN, ltT, ltF, leT, leF, eqT, eqF, nzF, m1F, m1T, shr, shg, bI0, bI1, bo_bI, bo_1, bo_0, eq10, eq00, frT1, frT2, frT3, fit0, fit1, fit2, fit3, true_and, and_true, ↓reduceIte, Nat.reduceAdd, Nat.reduceMul, and_self, not_false_eq_true, not_true_eq_false, Nat.zero_add, Nat.add_zero]
    rfl
def vBar (G : Gv) (V : Vw) (x : Int32) : Int32 := if isR (gN G) x = true then lp (fun r a => a ||| cAt (V 1) r (nI 3) (nI 4)) (gN G) (nI 0) &&& (cAt (V 1) x.toNatClampNeg (nI 3) (nI 4) ^^^ (-1)) else -1
theorem k_bare (hG : okG (gI I)) : Wp L xs (d+2) 149 0 [some (.ref (64)), some (.int (x)), none, none] [] (mk I J R Z) P = P (some (.int (vBar (gI I) (vw I 102) x))) (mk I J R Z) := by
  have hN : I 76 0 = nI (gN (gI I)) := hG.1.1
  have h5 := hG.1.2
  unfold vBar
  by_cases hx : isR (gN (gI I)) x = true
  · rw [if_pos hx]
    obtain ⟨r, hr, rfl⟩ := isR_t hx (by omega)
    rw [nI_clamp (by omega)]
    simp (discharger := omega) only [↓w149_0, ↓w149_1, ↓w149_2, ↓w149_5, ↓w149_8, ↓w149_9, ↓w149_10, ↓w149_11, ↓w149_12, ↓w149_13, ↓w149_15, ↓w149_16, ↓w149_19, ↓w149_22, ↓w149_25, ↓w149_26, ↓w149_27, ↓w149_30, ↓w149_31, ↓w149_32, ↓w149_33, ↓w149_36, ↓w149_37, ↓w149_38, ↓w149_41, ↓w149_44, ↓w149_45, ↓w149_46, ↓w149_49, ↓w149_50, ↓w149_51, ↓w149_52, ↓w149_55, ↓w149_56, ↓w149_57, ↓w149_58, ↓k_isReplica hN, hx, bI_t, ↓kc_i, ↓kc_l, ↓kc_r, ↓kc_n, rc64, g64_0, g64_1, g64_2, g64_3, g64_4, g64_5, g64_6, g64_7, g64_8, g64_9, g64_10, g64_11, g64_12, mul8, mul8', mul4, mul4', nI_add, inT, nclN, ltT, ltF, leT, leF, eqT, eqF, nzF, m1F, m1T, shr, shg, bI0, bI1, bo_bI, bo_1, bo_0, eq10, eq00, frT1, frT2, frT3, fit0, fit1, fit2, fit3, true_and, and_true, ↓reduceIte, Nat.reduceAdd, Nat.reduceMul, and_self, not_false_eq_true, not_true_eq_false, Nat.zero_add, Nat.add_zero]
    refine lp_any (T := Unit) (F := fun i acc _ => Wp L xs (d+2) 149 14 [some (.ref (64)), some (.int (nI r)), some (.int (acc)), some (.int (nI i))] [] (mk I J R Z) P) (B := fun r a => a ||| cAt (I 103) r (nI 3) (nI 4)) (G := fun q => P (some (.int (q &&& (cAt (I 103) r (nI 3) (nI 4) ^^^ (-1))))) (mk I J R Z)) (gN (gI I)) ?_ ?_ (nI 0) ()
    · intro i acc t hi
      refine ⟨(), w149_14.trans ?_⟩
      simp (discharger := omega) only [↓w149_0, ↓w149_1, ↓w149_2, ↓w149_5, ↓w149_8, ↓w149_9, ↓w149_10, ↓w149_11, ↓w149_12, ↓w149_13, ↓w149_15, ↓w149_16, ↓w149_19, ↓w149_22, ↓w149_25, ↓w149_26, ↓w149_27, ↓w149_30, ↓w149_31, ↓w149_32, ↓w149_33, ↓w149_36, ↓w149_37, ↓w149_38, ↓w149_41, ↓w149_44, ↓w149_45, ↓w149_46, ↓w149_49, ↓w149_50, ↓w149_51, ↓w149_52, ↓w149_55, ↓w149_56, ↓w149_57, ↓w149_58, ↓k_commandsAt' isS_102 (show i < 5 by omega), ↓kc_i, ↓kc_l, ↓kc_r, ↓kc_n, rc64, g64_0, g64_1, g64_2, g64_3, g64_4, g64_5, g64_6, g64_7, g64_8, g64_9, g64_10, g64_11, g64_12, rc76, g76_0, p76_0, g76_1, p76_1, g76_2, p76_2, g76_3, g76_4, g76_5, g76_6, g76_7, g76_8, rc102, g102_0, p102_0, g102_1, p102_1, g102_2, g102_3, g102_4, g102_5, g102_6, g102_7, g102_8, g102_9, g102_10, g102_11, g102_12, hN, mul8, mul8', mul4, mul4', nI_add, inT, nclN, ltT, ltF, leT, leF, eqT, eqF, nzF, m1F, m1T, shr, shg, bI0, bI1, bo_bI, bo_1, bo_0, eq10, eq00, frT1, frT2, frT3, fit0, fit1, fit2, fit3, true_and, and_true, ↓reduceIte, Nat.reduceAdd, Nat.reduceMul, and_self, not_false_eq_true, not_true_eq_false, Nat.zero_add, Nat.add_zero]
    · intro acc t
      refine w149_14.trans ?_
      simp (discharger := omega) only [↓w149_0, ↓w149_1, ↓w149_2, ↓w149_5, ↓w149_8, ↓w149_9, ↓w149_10, ↓w149_11, ↓w149_12, ↓w149_13, ↓w149_15, ↓w149_16, ↓w149_19, ↓w149_22, ↓w149_25, ↓w149_26, ↓w149_27, ↓w149_30, ↓w149_31, ↓w149_32, ↓w149_33, ↓w149_36, ↓w149_37, ↓w149_38, ↓w149_41, ↓w149_44, ↓w149_45, ↓w149_46, ↓w149_49, ↓w149_50, ↓w149_51, ↓w149_52, ↓w149_55, ↓w149_56, ↓w149_57, ↓w149_58, ↓k_commandsAt' isS_102 (show r < 5 by omega), ↓kc_i, ↓kc_l, ↓kc_r, ↓kc_n, rc64, g64_0, g64_1, g64_2, g64_3, g64_4, g64_5, g64_6, g64_7, g64_8, g64_9, g64_10, g64_11, g64_12, rc76, g76_0, p76_0, g76_1, p76_1, g76_2, p76_2, g76_3, g76_4, g76_5, g76_6, g76_7, g76_8, rc102, g102_0, p102_0, g102_1, p102_1, g102_2, g102_3, g102_4, g102_5, g102_6, g102_7, g102_8, g102_9, g102_10, g102_11, g102_12, hN, mul8, mul8', mul4, mul4', nI_add, inT, nclN, ltT, ltF, leT, leF, eqT, eqF, nzF, m1F, m1T, shr, shg, bI0, bI1, bo_bI, bo_1, bo_0, eq10, eq00, frT1, frT2, frT3, fit0, fit1, fit2, fit3, true_and, and_true, ↓reduceIte, Nat.reduceAdd, Nat.reduceMul, and_self, not_false_eq_true, not_true_eq_false, Nat.zero_add, Nat.add_zero]
  · have hx' := Bool.eq_false_iff.mpr hx
    rw [if_neg hx]
    simp (discharger := omega) only [↓w149_0, ↓w149_1, ↓w149_2, ↓w149_5, ↓w149_8, ↓w149_9, ↓w149_10, ↓w149_11, ↓w149_12, ↓w149_13, ↓w149_15, ↓w149_16, ↓w149_19, ↓w149_22, ↓w149_25, ↓w149_26, ↓w149_27, ↓w149_30, ↓w149_31, ↓w149_32, ↓w149_33, ↓w149_36, ↓w149_37, ↓w149_38, ↓w149_41, ↓w149_44, ↓w149_45, ↓w149_46, ↓w149_49, ↓w149_50, ↓w149_51, ↓w149_52, ↓w149_55, ↓w149_56, ↓w149_57, ↓w149_58, ↓k_isReplica hN, hx', bI_f, ↓kc_i, ↓kc_l, ↓kc_r, ↓kc_n, rc64, g64_0, g64_1, g64_2, g64_3, g64_4, g64_5, g64_6, g64_7, g64_8, g64_9, g64_10, g64_11, g64_12, mul8, mul8', mul4, mul4', nI_add, inT, nclN, ltT, ltF, leT, leF, eqT, eqF, nzF, m1F, m1T, shr, shg, bI0, bI1, bo_bI, bo_1, bo_0, eq10, eq00, frT1, frT2, frT3, fit0, fit1, fit2, fit3, true_and, and_true, ↓reduceIte, Nat.reduceAdd, Nat.reduceMul, and_self, not_false_eq_true, not_true_eq_false, Nat.zero_add, Nat.add_zero]
def vLev (G : Gv) (V : Vw) (x : Int32) : Int32 := if isR (gN G) x = true then nI (lvl (fun c => decide (G 4 c = nI x.toNatClampNeg)) (fun c => decide (rW (V 1) c (nI 4) (nI 4) = allR (gN G))) 0 (gM G) 0) else -1
theorem k_level (hG : okG (gI I)) : Wp L xs (d+3) 150 0 [some (.ref (64)), some (.int (x))] [] (mk I J R Z) P = P (some (.int (vLev (gI I) (vw I 102) x))) (mk I J R Z) := by
  have hN : I 76 0 = nI (gN (gI I)) := hG.1.1
  have hM : I 76 2 = nI (gM (gI I)) := hG.2.1.1
  have h5 := hG.1.2
  have h8 := hG.2.1.2
  unfold vLev
  by_cases hx : isR (gN (gI I)) x = true
  · rw [if_pos hx]
    obtain ⟨r, hr, rfl⟩ := isR_t hx (by omega)
    rw [nI_clamp (by omega)]
    have h1 := fun P => k_ranEverywhere (L := L) (xs := xs) (d := d) (I := I) (J := J) (R := R) (Z := Z) (P := P) isS_102 (show r < 5 by omega) hM h8 hN h5
    have hsm : sm (rev (fun c => decide (I 80 c = nI r)) (fun c => decide (rW (I (102 + 1)) c (nI 4) (nI 4) = allR (gN (gI I)))) 0 (gM (gI I)) (nI 0)) := sm_rev (by omega) sm_0
    simp (discharger := omega) only [↓w150_0, ↓w150_1, ↓w150_2, ↓w150_5, ↓w150_8, ↓w150_9, ↓w150_12, ↓w150_13, ↓w150_16, ↓w150_17, ↓w150_20, ↓w150_23, ↓w150_26, ↓w150_27, ↓k_isReplica hN, ↓h1, ↓k_bitCount hsm, hx, bI_t, ↓kc_i, ↓kc_l, ↓kc_r, ↓kc_n, rc64, g64_0, g64_1, g64_2, g64_3, g64_4, g64_5, g64_6, g64_7, g64_8, g64_9, g64_10, g64_11, g64_12, rc128, g128_0, g128_1, g128_2, p128_2, g128_3, p128_3, rc102, g102_0, p102_0, g102_1, p102_1, g102_2, g102_3, g102_4, g102_5, g102_6, g102_7, g102_8, g102_9, g102_10, g102_11, g102_12, mul8, mul8', mul4, mul4', nI_add, inT, nclN, ltT, ltF, leT, leF, eqT, eqF, nzF, m1F, m1T, shr, shg, bI0, bI1, bo_bI, bo_1, bo_0, eq10, eq00, frT1, frT2, frT3, fit0, fit1, fit2, fit3, true_and, and_true, ↓reduceIte, Nat.reduceAdd, Nat.reduceMul, and_self, not_false_eq_true, not_true_eq_false, Nat.zero_add, Nat.add_zero]
    rw [rev_pcn (by omega)]
    rfl
  · have hx' := Bool.eq_false_iff.mpr hx
    rw [if_neg hx]
    simp (discharger := omega) only [↓w150_0, ↓w150_1, ↓w150_2, ↓w150_5, ↓w150_8, ↓w150_9, ↓w150_12, ↓w150_13, ↓w150_16, ↓w150_17, ↓w150_20, ↓w150_23, ↓w150_26, ↓w150_27, ↓k_isReplica hN, hx', bI_f, ↓kc_i, ↓kc_l, ↓kc_r, ↓kc_n, rc64, g64_0, g64_1, g64_2, g64_3, g64_4, g64_5, g64_6, g64_7, g64_8, g64_9, g64_10, g64_11, g64_12, mul8, mul8', mul4, mul4', nI_add, inT, nclN, ltT, ltF, leT, leF, eqT, eqF, nzF, m1F, m1T, shr, shg, bI0, bI1, bo_bI, bo_1, bo_0, eq10, eq00, frT1, frT2, frT3, fit0, fit1, fit2, fit3, true_and, and_true, ↓reduceIte, Nat.reduceAdd, Nat.reduceMul, and_self, not_false_eq_true, not_true_eq_false, Nat.zero_add, Nat.add_zero]
def stk (n : Nat) (V : Vw) (e : Int32) : Int32 × Int32 := lp (fun r q => if tb (V 0 0) r = true then (q.1 ||| cAt (V 1) r (nI 1) (nI 4), q.2 &&& cAt (V 1) r (nI 3) (nI 4)) else q) n (nI 0, e)
def vStu (G : Gv) (V : Vw) : Int32 := if mst (gN G) ≤ pcn (V 0 0) then nI 0 else (fun q : Int32 × Int32 => q.1 &&& (q.2 ^^^ (-1))) (stk (gN G) V (sg (gM G) - nI 1))
theorem k_stuck (hG : okG (gI I)) (hV : okV B (gI I) (vw I 102)) : Wp L xs (d+2) 151 0 [some (.ref (64)), none, none, none] [] (mk I J R Z) P = P (some (.int (vStu (gI I) (vw I 102)))) (mk I J R Z) := by
  have hN : I 76 0 = nI (gN (gI I)) := hG.1.1
  have hM : I 76 2 = nI (gM (gI I)) := hG.2.1.1
  have h5 := hG.1.2
  have h8 := hG.2.1.2
  have hu : sm (I 102 0) := (okV_S hG hV).1
  have hp := pcn_le (x := I 102 0)
  have hms : mst (gN (gI I)) ≤ 5 := by unfold mst; omega
  unfold vStu
  by_cases h : mst (gN (gI I)) ≤ pcn (I 102 0)
  · rw [if_pos (show mst (gN (gI I)) ≤ pcn (vw I 102 0 0) from h)]
    simp (discharger := omega) only [↓w151_0, ↓w151_1, ↓w151_4, ↓w151_7, ↓w151_10, ↓w151_11, ↓w151_14, ↓w151_17, ↓w151_20, ↓w151_21, ↓w151_22, ↓w151_23, ↓w151_24, ↓w151_25, ↓w151_26, ↓w151_29, ↓w151_32, ↓w151_33, ↓w151_34, ↓w151_35, ↓w151_36, ↓w151_37, ↓w151_39, ↓w151_40, ↓w151_43, ↓w151_46, ↓w151_49, ↓w151_50, ↓w151_53, ↓w151_54, ↓w151_57, ↓w151_60, ↓w151_61, ↓w151_62, ↓w151_65, ↓w151_66, ↓w151_67, ↓w151_68, ↓w151_71, ↓w151_72, ↓w151_73, ↓w151_74, ↓w151_75, ↓w151_78, ↓w151_79, ↓w151_80, ↓w151_81, ↓w151_84, ↓w151_85, ↓w151_86, ↓w151_89, ↓w151_92, ↓w151_93, ↓w151_94, ↓w151_95, ↓w151_96, ↓w151_97, ↓k_bitCount hu, ↓k_most hN h5, ↓kc_i, ↓kc_l, ↓kc_r, ↓kc_n, rc64, g64_0, g64_1, g64_2, g64_3, g64_4, g64_5, g64_6, g64_7, g64_8, g64_9, g64_10, g64_11, g64_12, rc76, g76_0, p76_0, g76_1, p76_1, g76_2, p76_2, g76_3, g76_4, g76_5, g76_6, g76_7, g76_8, rc102, g102_0, p102_0, g102_1, p102_1, g102_2, g102_3, g102_4, g102_5, g102_6, g102_7, g102_8, g102_9, g102_10, g102_11, g102_12, mul8, mul8', mul4, mul4', nI_add, inT, nclN, ltT, ltF, leT, leF, eqT, eqF, nzF, m1F, m1T, shr, shg, bI0, bI1, bo_bI, bo_1, bo_0, eq10, eq00, frT1, frT2, frT3, fit0, fit1, fit2, fit3, true_and, and_true, ↓reduceIte, Nat.reduceAdd, Nat.reduceMul, and_self, not_false_eq_true, not_true_eq_false, Nat.zero_add, Nat.add_zero]
  · rw [if_neg (show ¬ mst (gN (gI I)) ≤ pcn (vw I 102 0 0) from h)]
    simp (discharger := omega) only [↓w151_0, ↓w151_1, ↓w151_4, ↓w151_7, ↓w151_10, ↓w151_11, ↓w151_14, ↓w151_17, ↓w151_20, ↓w151_21, ↓w151_22, ↓w151_23, ↓w151_24, ↓w151_25, ↓w151_26, ↓w151_29, ↓w151_32, ↓w151_33, ↓w151_34, ↓w151_35, ↓w151_36, ↓w151_37, ↓w151_39, ↓w151_40, ↓w151_43, ↓w151_46, ↓w151_49, ↓w151_50, ↓w151_53, ↓w151_54, ↓w151_57, ↓w151_60, ↓w151_61, ↓w151_62, ↓w151_65, ↓w151_66, ↓w151_67, ↓w151_68, ↓w151_71, ↓w151_72, ↓w151_73, ↓w151_74, ↓w151_75, ↓w151_78, ↓w151_79, ↓w151_80, ↓w151_81, ↓w151_84, ↓w151_85, ↓w151_86, ↓w151_89, ↓w151_92, ↓w151_93, ↓w151_94, ↓w151_95, ↓w151_96, ↓w151_97, ↓k_bitCount hu, ↓k_most hN h5, ↓kc_i, ↓kc_l, ↓kc_r, ↓kc_n, rc64, g64_0, g64_1, g64_2, g64_3, g64_4, g64_5, g64_6, g64_7, g64_8, g64_9, g64_10, g64_11, g64_12, rc76, g76_0, p76_0, g76_1, p76_1, g76_2, p76_2, g76_3, g76_4, g76_5, g76_6, g76_7, g76_8, rc102, g102_0, p102_0, g102_1, p102_1, g102_2, g102_3, g102_4, g102_5, g102_6, g102_7, g102_8, g102_9, g102_10, g102_11, g102_12, hM, mul8, mul8', mul4, mul4', nI_add, inT, nclN, ltT, ltF, leT, leF, eqT, eqF, nzF, m1F, m1T, shr, shg, bI0, bI1, bo_bI, bo_1, bo_0, eq10, eq00, frT1, frT2, frT3, fit0, fit1, fit2, fit3, true_and, and_true, ↓reduceIte, Nat.reduceAdd, Nat.reduceMul, and_self, not_false_eq_true, not_true_eq_false, Nat.zero_add, Nat.add_zero]
    refine lp_any (T := Unit) (F := fun i (q : Int32 × Int32) _ => Wp L xs (d+2) 151 38 [some (.ref (64)), some (.int (q.1)), some (.int (q.2)), some (.int (nI i))] [] (mk I J R Z) P) (B := fun r q => if tb (I 102 0) r = true then (q.1 ||| cAt (I 103) r (nI 1) (nI 4), q.2 &&& cAt (I 103) r (nI 3) (nI 4)) else q) (G := fun q => P (some (.int (q.1 &&& (q.2 ^^^ (-1))))) (mk I J R Z)) (gN (gI I)) ?_ ?_ (nI 0, sg (gM (gI I)) - nI 1) ()
    · intro i q t hi
      refine ⟨(), w151_38.trans ?_⟩
      simp (discharger := omega) only [↓w151_0, ↓w151_1, ↓w151_4, ↓w151_7, ↓w151_10, ↓w151_11, ↓w151_14, ↓w151_17, ↓w151_20, ↓w151_21, ↓w151_22, ↓w151_23, ↓w151_24, ↓w151_25, ↓w151_26, ↓w151_29, ↓w151_32, ↓w151_33, ↓w151_34, ↓w151_35, ↓w151_36, ↓w151_37, ↓w151_39, ↓w151_40, ↓w151_43, ↓w151_46, ↓w151_49, ↓w151_50, ↓w151_53, ↓w151_54, ↓w151_57, ↓w151_60, ↓w151_61, ↓w151_62, ↓w151_65, ↓w151_66, ↓w151_67, ↓w151_68, ↓w151_71, ↓w151_72, ↓w151_73, ↓w151_74, ↓w151_75, ↓w151_78, ↓w151_79, ↓w151_80, ↓w151_81, ↓w151_84, ↓w151_85, ↓w151_86, ↓w151_89, ↓w151_92, ↓w151_93, ↓w151_94, ↓w151_95, ↓w151_96, ↓w151_97, ↓k_isUp isS_102, ↓k_commandsAt' isS_102 (show i < 5 by omega), ↓kc_i, ↓kc_l, ↓kc_r, ↓kc_n, rc64, g64_0, g64_1, g64_2, g64_3, g64_4, g64_5, g64_6, g64_7, g64_8, g64_9, g64_10, g64_11, g64_12, rc76, g76_0, p76_0, g76_1, p76_1, g76_2, p76_2, g76_3, g76_4, g76_5, g76_6, g76_7, g76_8, rc102, g102_0, p102_0, g102_1, p102_1, g102_2, g102_3, g102_4, g102_5, g102_6, g102_7, g102_8, g102_9, g102_10, g102_11, g102_12, hN, mul8, mul8', mul4, mul4', nI_add, inT, nclN, ltT, ltF, leT, leF, eqT, eqF, nzF, m1F, m1T, shr, shg, bI0, bI1, bo_bI, bo_1, bo_0, eq10, eq00, frT1, frT2, frT3, fit0, fit1, fit2, fit3, true_and, and_true, ↓reduceIte, Nat.reduceAdd, Nat.reduceMul, and_self, not_false_eq_true, not_true_eq_false, Nat.zero_add, Nat.add_zero]
      by_cases hb : tb (I 102 0) i = true <;> simp [hb]
    · intro q t
      refine w151_38.trans ?_
      simp (discharger := omega) only [↓w151_0, ↓w151_1, ↓w151_4, ↓w151_7, ↓w151_10, ↓w151_11, ↓w151_14, ↓w151_17, ↓w151_20, ↓w151_21, ↓w151_22, ↓w151_23, ↓w151_24, ↓w151_25, ↓w151_26, ↓w151_29, ↓w151_32, ↓w151_33, ↓w151_34, ↓w151_35, ↓w151_36, ↓w151_37, ↓w151_39, ↓w151_40, ↓w151_43, ↓w151_46, ↓w151_49, ↓w151_50, ↓w151_53, ↓w151_54, ↓w151_57, ↓w151_60, ↓w151_61, ↓w151_62, ↓w151_65, ↓w151_66, ↓w151_67, ↓w151_68, ↓w151_71, ↓w151_72, ↓w151_73, ↓w151_74, ↓w151_75, ↓w151_78, ↓w151_79, ↓w151_80, ↓w151_81, ↓w151_84, ↓w151_85, ↓w151_86, ↓w151_89, ↓w151_92, ↓w151_93, ↓w151_94, ↓w151_95, ↓w151_96, ↓w151_97, rc64, g64_0, g64_1, g64_2, g64_3, g64_4, g64_5, g64_6, g64_7, g64_8, g64_9, g64_10, g64_11, g64_12, rc76, g76_0, p76_0, g76_1, p76_1, g76_2, p76_2, g76_3, g76_4, g76_5, g76_6, g76_7, g76_8, hN, mul8, mul8', mul4, mul4', nI_add, inT, nclN, ltT, ltF, leT, leF, eqT, eqF, nzF, m1F, m1T, shr, shg, bI0, bI1, bo_bI, bo_1, bo_0, eq10, eq00, frT1, frT2, frT3, fit0, fit1, fit2, fit3, true_and, and_true, ↓reduceIte, Nat.reduceAdd, Nat.reduceMul, and_self, not_false_eq_true, not_true_eq_false, Nat.zero_add, Nat.add_zero]
def vFin (G : Gv) (V : Vw) (x y : Int32) : Int32 := if isR (gM G) x = true ∧ isR (gN G) y = true then (fun c r => if canRec (gN G) (V 0 0) (V 1) r c = true then nI (fdV G V (V 0 0) c).1 else -1) x.toNatClampNeg y.toNatClampNeg else -1
theorem k_finds (hG : okG (gI I)) (hV : okV B (gI I) (vw I 102)) (hl7 : ∀ k, 8 ≤ k → I 127 k = nI 0) : ∃ I', scE I I' ∧ ∀ P, Wp L xs (d+4) 152 0 [some (.ref (64)), some (.int (x)), some (.int (y))] [] (mk I J R Z) P = P (some (.int (vFin (gI I) (vw I 102) x y))) (mk I' J R Z) := by
  have hN : I 76 0 = nI (gN (gI I)) := hG.1.1
  have hM : I 76 2 = nI (gM (gI I)) := hG.2.1.1
  have h5 := hG.1.2
  have h8 := hG.2.1.2
  have hu : sm (I 102 0) := (okV_S hG hV).1
  unfold vFin
  by_cases hx : isR (gM (gI I)) x = true
  · by_cases hy : isR (gN (gI I)) y = true
    · obtain ⟨c, hc, rfl⟩ := isR_t hx (by omega)
      obtain ⟨r, hr, rfl⟩ := isR_t hy (by omega)
      rw [if_pos ⟨hx, hy⟩, nI_clamp (by omega), nI_clamp (by omega)]
      have hc8 : c < 8 := by omega
      have hl : I 80 c = nI (gL (gI I) c) := (hG.2.2.1 c hc).1
      have hl5 : gL (gI I) c < 5 := by have := (hG.2.2.1 c hc).2; omega
      have h1 := fun P => k_canRecover (L := L) (xs := xs) (d := d + 2) (I := I) (J := J) (R := R) (Z := Z) (P := P) isS_102 hc8 (show r < 5 by omega) hN h5 hu
      have h2 := fun P => k_find (L := L) (xs := xs) (d := d) (I := I) (J := J) (R := R) (Z := Z) (P := P) (x := I 102 0) isS_102 hc8 hM h8 hN h5 hl hl5
      by_cases hcr : canRec (gN (gI I)) (I 102 0) (I 103) r c = true
      · refine ⟨fsd I (fdV (gI I) (vw I 102) (I 102 0) c).2.1 (fdV (gI I) (vw I 102) (I 102 0) c).2.2, fsd_scE hl7, fun P => ?_⟩
        simp (discharger := omega) only [↓w152_0, ↓w152_1, ↓w152_2, ↓w152_5, ↓w152_8, ↓w152_9, ↓w152_10, ↓w152_13, ↓w152_16, ↓w152_17, ↓w152_20, ↓w152_21, ↓w152_24, ↓w152_25, ↓w152_26, ↓w152_29, ↓w152_32, ↓w152_33, ↓w152_34, ↓w152_35, ↓w152_38, ↓w152_39, ↓w152_42, ↓w152_43, ↓w152_46, ↓w152_49, ↓w152_50, ↓w152_53, ↓k_isReplica hN, ↓k_isCommand hM, ↓h1, ↓h2, hx, hy, bI_t, hcr, ↓kc_i, ↓kc_l, ↓kc_r, ↓kc_n, rc64, g64_0, g64_1, g64_2, g64_3, g64_4, g64_5, g64_6, g64_7, g64_8, g64_9, g64_10, g64_11, g64_12, rc128, g128_0, g128_1, g128_2, p128_2, g128_3, p128_3, rc102, g102_0, p102_0, g102_1, p102_1, g102_2, g102_3, g102_4, g102_5, g102_6, g102_7, g102_8, g102_9, g102_10, g102_11, g102_12, mul8, mul8', mul4, mul4', nI_add, inT, nclN, ltT, ltF, leT, leF, eqT, eqF, nzF, m1F, m1T, shr, shg, bI0, bI1, bo_bI, bo_1, bo_0, eq10, eq00, frT1, frT2, frT3, fit0, fit1, fit2, fit3, true_and, and_true, ↓reduceIte, Nat.reduceAdd, Nat.reduceMul, and_self, not_false_eq_true, not_true_eq_false, Nat.zero_add, Nat.add_zero, Bool.true_eq_false]
        show _ = P (some (.int (if canRec (gN (gI I)) (I 102 0) (I 103) r c = true then nI (fdV (gI I) (vw I 102) (I 102 0) c).1 else -1))) _
        rw [if_pos hcr]
        rfl
      · have hcr' := Bool.eq_false_iff.mpr hcr
        refine ⟨I, scE_r hl7, fun P => ?_⟩
        simp (discharger := omega) only [↓w152_0, ↓w152_1, ↓w152_2, ↓w152_5, ↓w152_8, ↓w152_9, ↓w152_10, ↓w152_13, ↓w152_16, ↓w152_17, ↓w152_20, ↓w152_21, ↓w152_24, ↓w152_25, ↓w152_26, ↓w152_29, ↓w152_32, ↓w152_33, ↓w152_34, ↓w152_35, ↓w152_38, ↓w152_39, ↓w152_42, ↓w152_43, ↓w152_46, ↓w152_49, ↓w152_50, ↓w152_53, ↓k_isReplica hN, ↓k_isCommand hM, ↓h1, hx, hy, bI_t, bI_f, hcr', ↓kc_i, ↓kc_l, ↓kc_r, ↓kc_n, rc64, g64_0, g64_1, g64_2, g64_3, g64_4, g64_5, g64_6, g64_7, g64_8, g64_9, g64_10, g64_11, g64_12, rc128, g128_0, g128_1, g128_2, p128_2, g128_3, p128_3, rc102, g102_0, p102_0, g102_1, p102_1, g102_2, g102_3, g102_4, g102_5, g102_6, g102_7, g102_8, g102_9, g102_10, g102_11, g102_12, mul8, mul8', mul4, mul4', nI_add, inT, nclN, ltT, ltF, leT, leF, eqT, eqF, nzF, m1F, m1T, shr, shg, bI0, bI1, bo_bI, bo_1, bo_0, eq10, eq00, frT1, frT2, frT3, fit0, fit1, fit2, fit3, true_and, and_true, ↓reduceIte, Nat.reduceAdd, Nat.reduceMul, and_self, not_false_eq_true, not_true_eq_false, Nat.zero_add, Nat.add_zero]
        show _ = P (some (.int (if canRec (gN (gI I)) (I 102 0) (I 103) r c = true then nI (fdV (gI I) (vw I 102) (I 102 0) c).1 else -1))) _
        rw [if_neg hcr]
    · have hy' := Bool.eq_false_iff.mpr hy
      rw [if_neg (fun q => hy q.2)]
      refine ⟨I, scE_r hl7, fun P => ?_⟩
      simp (discharger := omega) only [↓w152_0, ↓w152_1, ↓w152_2, ↓w152_5, ↓w152_8, ↓w152_9, ↓w152_10, ↓w152_13, ↓w152_16, ↓w152_17, ↓w152_20, ↓w152_21, ↓w152_24, ↓w152_25, ↓w152_26, ↓w152_29, ↓w152_32, ↓w152_33, ↓w152_34, ↓w152_35, ↓w152_38, ↓w152_39, ↓w152_42, ↓w152_43, ↓w152_46, ↓w152_49, ↓w152_50, ↓w152_53, ↓k_isReplica hN, ↓k_isCommand hM, hx, hy', bI_t, bI_f, ↓kc_i, ↓kc_l, ↓kc_r, ↓kc_n, rc64, g64_0, g64_1, g64_2, g64_3, g64_4, g64_5, g64_6, g64_7, g64_8, g64_9, g64_10, g64_11, g64_12, mul8, mul8', mul4, mul4', nI_add, inT, nclN, ltT, ltF, leT, leF, eqT, eqF, nzF, m1F, m1T, shr, shg, bI0, bI1, bo_bI, bo_1, bo_0, eq10, eq00, frT1, frT2, frT3, fit0, fit1, fit2, fit3, true_and, and_true, ↓reduceIte, Nat.reduceAdd, Nat.reduceMul, and_self, not_false_eq_true, not_true_eq_false, Nat.zero_add, Nat.add_zero]
  · have hx' := Bool.eq_false_iff.mpr hx
    rw [if_neg (fun q => hx q.1)]
    refine ⟨I, scE_r hl7, fun P => ?_⟩
    simp (discharger := omega) only [↓w152_0, ↓w152_1, ↓w152_2, ↓w152_5, ↓w152_8, ↓w152_9, ↓w152_10, ↓w152_13, ↓w152_16, ↓w152_17, ↓w152_20, ↓w152_21, ↓w152_24, ↓w152_25, ↓w152_26, ↓w152_29, ↓w152_32, ↓w152_33, ↓w152_34, ↓w152_35, ↓w152_38, ↓w152_39, ↓w152_42, ↓w152_43, ↓w152_46, ↓w152_49, ↓w152_50, ↓w152_53, ↓k_isCommand hM, hx', bI_f, ↓kc_i, ↓kc_l, ↓kc_r, ↓kc_n, rc64, g64_0, g64_1, g64_2, g64_3, g64_4, g64_5, g64_6, g64_7, g64_8, g64_9, g64_10, g64_11, g64_12, mul8, mul8', mul4, mul4', nI_add, inT, nclN, ltT, ltF, leT, leF, eqT, eqF, nzF, m1F, m1T, shr, shg, bI0, bI1, bo_bI, bo_1, bo_0, eq10, eq00, frT1, frT2, frT3, fit0, fit1, fit2, fit3, true_and, and_true, ↓reduceIte, Nat.reduceAdd, Nat.reduceMul, and_self, not_false_eq_true, not_true_eq_false, Nat.zero_add, Nat.add_zero]
end E2
