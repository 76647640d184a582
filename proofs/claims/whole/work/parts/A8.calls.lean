section E8
variable {L : Nat} {xs : Nat → Int32} {d : Nat} {P : Option Value → Hp → Prop} {I : Mi} {J : Mj} {R : Mr} {Z : Mz} {r c k l N M o n m B a b t w nx mn s : Nat} {x y z : Int32} {V V' V0 : Vw} {f f1 f4 g : Nat → Int32} {G : Gv} {U : Uq}
def hPo (I I' : Mi) (nx' mn : Nat) (U : Uq) (ok : Bool) (w c r : Nat) : Prop := hnd I I' ∧ can 8 (I' 127) ∧ (∀ j, j < 12 → I' (102 + j) = (if ok = true then (stp (gI I) (vw I 102) w c r).2 else vw I 102) j) ∧ (if (ok && cnd (gI I) (vw I 102) w c r) = true then HiC I' nx' (min (mn + 1) 16) (Upu U mn (vw I 102)) else HiC I' nx' mn U)
theorem hPo_no (hl : can 8 (I 127)) (hH : HiC I nx mn U) : hPo I I nx mn U false w c r := ⟨fun _ _ => rfl, hl, fun _ _ => rfl, by simp only [Bool.false_and, Bool.false_eq_true, ↓reduceIte]; exact hH⟩
theorem k_propose (hG : okG (gI I)) (hX : okX (gI I)) (hV : okV B (gI I) (vw I 102)) (hBl : B + 1 < 2147483648) (hl : can 8 (I 127)) (hH : HiC I nx mn U) : ∃ I' nx', hPo I I' nx' mn U (isR (gM (gI I)) x) 0 (x.toNatClampNeg) (0) ∧ ∀ P, Wp L xs (d+7) 125 0 [some (.ref (64)), some (.int (x))] [] (mk I J R Z) P = P (some (.int (if isR (gM (gI I)) x = true then (stp (gI I) (vw I 102) 0 (x.toNatClampNeg) (0)).1 else -1))) (mk I' J R Z) := by
  have hN : I 76 0 = nI (gN (gI I)) := hG.1.1
  have hM : I 76 2 = nI (gM (gI I)) := hG.2.1.1
  have h5 := hG.1.2
  have h8 := hG.2.1.2
  by_cases hx : isR (gM (gI I)) x = true
  · obtain ⟨c, hc, rfl⟩ := isR_t hx (by omega)
    rw [hx, nI_clamp (by omega)]
    obtain ⟨I', nx', a1, a2, a3, a4, a5⟩ := k_doByHand (L := L) (xs := xs) (d := d) (J := J) (R := R) (Z := Z) (w := 0) (c := c) (r := 0) (by decide) hG hX hV hBl hl hH (fun _ => hc) (fun q => absurd q (by decide))
    have hans := (okV_stp (w := 0) (c := c) (r := 0) (by decide) hV hG hX (fun _ => hc) (fun q => absurd q (by decide)) hBl).2
    refine ⟨I', nx', ⟨a1, a2, a3, by rw [Bool.true_and]; exact a4⟩, fun P => ?_⟩
    simp (discharger := omega) only [↓w125_0, ↓w125_1, ↓w125_2, ↓w125_5, ↓w125_8, ↓w125_9, ↓w125_10, ↓w125_11, ↓w125_12, ↓w125_15, ↓w125_18, ↓w125_19, ↓k_isCommand hM, ↓k_isReplica hN, hx, ↓a5, bI_t, ↓kc_i, ↓kc_l, ↓kc_r, ↓kc_n, rc64, g64_0, g64_1, g64_2, g64_3, g64_4, g64_5, g64_6, g64_7, g64_8, g64_9, g64_10, g64_11, g64_12, mul8, mul8', mul4, mul4', nI_add, inT, nclN, ltT, ltF, leT, leF, eqT, eqF, nzF, m1F, m1T, shr, shg, bI0, bI1, bo_bI, bo_1, bo_0, eq10, eq00, frT1, frT2, frT3, fit0, fit1, fit2, fit3, true_and, and_true, ↓reduceIte, Nat.reduceAdd, Nat.reduceMul, and_self, not_false_eq_true, not_true_eq_false, Nat.zero_add, Nat.add_zero] <;> rfl
  · have hx' := Bool.eq_false_iff.mpr hx
    rw [hx']
    refine ⟨I, nx, hPo_no hl hH, fun P => ?_⟩
    simp (discharger := omega) only [↓w125_0, ↓w125_1, ↓w125_2, ↓w125_5, ↓w125_8, ↓w125_9, ↓w125_10, ↓w125_11, ↓w125_12, ↓w125_15, ↓w125_18, ↓w125_19, ↓k_isCommand hM, ↓k_isReplica hN, hx', bI_f, ↓kc_i, ↓kc_l, ↓kc_r, ↓kc_n, rc64, g64_0, g64_1, g64_2, g64_3, g64_4, g64_5, g64_6, g64_7, g64_8, g64_9, g64_10, g64_11, g64_12, mul8, mul8', mul4, mul4', nI_add, inT, nclN, ltT, ltF, leT, leF, eqT, eqF, nzF, m1F, m1T, shr, shg, bI0, bI1, bo_bI, bo_1, bo_0, eq10, eq00, frT1, frT2, frT3, fit0, fit1, fit2, fit3, true_and, and_true, ↓reduceIte, Nat.reduceAdd, Nat.reduceMul, and_self, not_false_eq_true, not_true_eq_false, Nat.zero_add, Nat.add_zero, Bool.false_eq_true, Bool.false_and]
theorem k_ask (hG : okG (gI I)) (hX : okX (gI I)) (hV : okV B (gI I) (vw I 102)) (hBl : B + 1 < 2147483648) (hl : can 8 (I 127)) (hH : HiC I nx mn U) : ∃ I' nx', hPo I I' nx' mn U ((isR (gM (gI I)) x && isR (gN (gI I)) y)) 1 (x.toNatClampNeg) (y.toNatClampNeg) ∧ ∀ P, Wp L xs (d+7) 126 0 [some (.ref (64)), some (.int (x)), some (.int (y))] [] (mk I J R Z) P = P (some (.int (if (isR (gM (gI I)) x && isR (gN (gI I)) y) = true then (stp (gI I) (vw I 102) 1 (x.toNatClampNeg) (y.toNatClampNeg)).1 else -1))) (mk I' J R Z) := by
  have hN : I 76 0 = nI (gN (gI I)) := hG.1.1
  have hM : I 76 2 = nI (gM (gI I)) := hG.2.1.1
  have h5 := hG.1.2
  have h8 := hG.2.1.2
  by_cases hx : isR (gM (gI I)) x = true
  · by_cases hy : isR (gN (gI I)) y = true
    · obtain ⟨c, hc, rfl⟩ := isR_t hx (by omega)
      obtain ⟨r, hr, rfl⟩ := isR_t hy (by omega)
      rw [hx, hy, nI_clamp (by omega), nI_clamp (by omega), Bool.true_and]
      obtain ⟨I', nx', a1, a2, a3, a4, a5⟩ := k_doByHand (L := L) (xs := xs) (d := d) (J := J) (R := R) (Z := Z) (w := 1) (c := c) (r := r) (by decide) hG hX hV hBl hl hH (fun _ => hc) (fun _ => hr)
      have hans := (okV_stp (w := 1) (c := c) (r := r) (by decide) hV hG hX (fun _ => hc) (fun _ => hr) hBl).2
      refine ⟨I', nx', ⟨a1, a2, a3, by rw [Bool.true_and]; exact a4⟩, fun P => ?_⟩
      simp (discharger := omega) only [↓w126_0, ↓w126_1, ↓w126_2, ↓w126_5, ↓w126_8, ↓w126_9, ↓w126_10, ↓w126_13, ↓w126_16, ↓w126_17, ↓w126_18, ↓w126_19, ↓w126_20, ↓w126_23, ↓w126_26, ↓w126_27, ↓k_isCommand hM, ↓k_isReplica hN, hx, hy, ↓a5, bI_t, ↓kc_i, ↓kc_l, ↓kc_r, ↓kc_n, rc64, g64_0, g64_1, g64_2, g64_3, g64_4, g64_5, g64_6, g64_7, g64_8, g64_9, g64_10, g64_11, g64_12, mul8, mul8', mul4, mul4', nI_add, inT, nclN, ltT, ltF, leT, leF, eqT, eqF, nzF, m1F, m1T, shr, shg, bI0, bI1, bo_bI, bo_1, bo_0, eq10, eq00, frT1, frT2, frT3, fit0, fit1, fit2, fit3, true_and, and_true, ↓reduceIte, Nat.reduceAdd, Nat.reduceMul, and_self, not_false_eq_true, not_true_eq_false, Nat.zero_add, Nat.add_zero] <;> rfl
    · have hy' := Bool.eq_false_iff.mpr hy
      rw [hx, hy', Bool.and_false]
      refine ⟨I, nx, hPo_no hl hH, fun P => ?_⟩
      simp (discharger := omega) only [↓w126_0, ↓w126_1, ↓w126_2, ↓w126_5, ↓w126_8, ↓w126_9, ↓w126_10, ↓w126_13, ↓w126_16, ↓w126_17, ↓w126_18, ↓w126_19, ↓w126_20, ↓w126_23, ↓w126_26, ↓w126_27, ↓k_isCommand hM, ↓k_isReplica hN, hx, hy', bI_t, bI_f, ↓kc_i, ↓kc_l, ↓kc_r, ↓kc_n, rc64, g64_0, g64_1, g64_2, g64_3, g64_4, g64_5, g64_6, g64_7, g64_8, g64_9, g64_10, g64_11, g64_12, mul8, mul8', mul4, mul4', nI_add, inT, nclN, ltT, ltF, leT, leF, eqT, eqF, nzF, m1F, m1T, shr, shg, bI0, bI1, bo_bI, bo_1, bo_0, eq10, eq00, frT1, frT2, frT3, fit0, fit1, fit2, fit3, true_and, and_true, ↓reduceIte, Nat.reduceAdd, Nat.reduceMul, and_self, not_false_eq_true, not_true_eq_false, Nat.zero_add, Nat.add_zero, Bool.false_eq_true, Bool.false_and]
  · have hx' := Bool.eq_false_iff.mpr hx
    rw [hx', Bool.false_and]
    refine ⟨I, nx, hPo_no hl hH, fun P => ?_⟩
    simp (discharger := omega) only [↓w126_0, ↓w126_1, ↓w126_2, ↓w126_5, ↓w126_8, ↓w126_9, ↓w126_10, ↓w126_13, ↓w126_16, ↓w126_17, ↓w126_18, ↓w126_19, ↓w126_20, ↓w126_23, ↓w126_26, ↓w126_27, ↓k_isCommand hM, ↓k_isReplica hN, hx', bI_f, ↓kc_i, ↓kc_l, ↓kc_r, ↓kc_n, rc64, g64_0, g64_1, g64_2, g64_3, g64_4, g64_5, g64_6, g64_7, g64_8, g64_9, g64_10, g64_11, g64_12, mul8, mul8', mul4, mul4', nI_add, inT, nclN, ltT, ltF, leT, leF, eqT, eqF, nzF, m1F, m1T, shr, shg, bI0, bI1, bo_bI, bo_1, bo_0, eq10, eq00, frT1, frT2, frT3, fit0, fit1, fit2, fit3, true_and, and_true, ↓reduceIte, Nat.reduceAdd, Nat.reduceMul, and_self, not_false_eq_true, not_true_eq_false, Nat.zero_add, Nat.add_zero, Bool.false_eq_true, Bool.false_and]
theorem k_decide (hG : okG (gI I)) (hX : okX (gI I)) (hV : okV B (gI I) (vw I 102)) (hBl : B + 1 < 2147483648) (hl : can 8 (I 127)) (hH : HiC I nx mn U) : ∃ I' nx', hPo I I' nx' mn U (isR (gM (gI I)) x) 2 (x.toNatClampNeg) (0) ∧ ∀ P, Wp L xs (d+7) 127 0 [some (.ref (64)), some (.int (x))] [] (mk I J R Z) P = P (some (.int (if isR (gM (gI I)) x = true then (stp (gI I) (vw I 102) 2 (x.toNatClampNeg) (0)).1 else -1))) (mk I' J R Z) := by
  have hN : I 76 0 = nI (gN (gI I)) := hG.1.1
  have hM : I 76 2 = nI (gM (gI I)) := hG.2.1.1
  have h5 := hG.1.2
  have h8 := hG.2.1.2
  by_cases hx : isR (gM (gI I)) x = true
  · obtain ⟨c, hc, rfl⟩ := isR_t hx (by omega)
    rw [hx, nI_clamp (by omega)]
    obtain ⟨I', nx', a1, a2, a3, a4, a5⟩ := k_doByHand (L := L) (xs := xs) (d := d) (J := J) (R := R) (Z := Z) (w := 2) (c := c) (r := 0) (by decide) hG hX hV hBl hl hH (fun _ => hc) (fun q => absurd q (by decide))
    have hans := (okV_stp (w := 2) (c := c) (r := 0) (by decide) hV hG hX (fun _ => hc) (fun q => absurd q (by decide)) hBl).2
    refine ⟨I', nx', ⟨a1, a2, a3, by rw [Bool.true_and]; exact a4⟩, fun P => ?_⟩
    simp (discharger := omega) only [↓w127_0, ↓w127_1, ↓w127_2, ↓w127_5, ↓w127_8, ↓w127_9, ↓w127_10, ↓w127_11, ↓w127_12, ↓w127_15, ↓w127_18, ↓w127_19, ↓k_isCommand hM, ↓k_isReplica hN, hx, ↓a5, bI_t, ↓kc_i, ↓kc_l, ↓kc_r, ↓kc_n, rc64, g64_0, g64_1, g64_2, g64_3, g64_4, g64_5, g64_6, g64_7, g64_8, g64_9, g64_10, g64_11, g64_12, mul8, mul8', mul4, mul4', nI_add, inT, nclN, ltT, ltF, leT, leF, eqT, eqF, nzF, m1F, m1T, shr, shg, bI0, bI1, bo_bI, bo_1, bo_0, eq10, eq00, frT1, frT2, frT3, fit0, fit1, fit2, fit3, true_and, and_true, ↓reduceIte, Nat.reduceAdd, Nat.reduceMul, and_self, not_false_eq_true, not_true_eq_false, Nat.zero_add, Nat.add_zero] <;> rfl
  · have hx' := Bool.eq_false_iff.mpr hx
    rw [hx']
    refine ⟨I, nx, hPo_no hl hH, fun P => ?_⟩
    simp (discharger := omega) only [↓w127_0, ↓w127_1, ↓w127_2, ↓w127_5, ↓w127_8, ↓w127_9, ↓w127_10, ↓w127_11, ↓w127_12, ↓w127_15, ↓w127_18, ↓w127_19, ↓k_isCommand hM, ↓k_isReplica hN, hx', bI_f, ↓kc_i, ↓kc_l, ↓kc_r, ↓kc_n, rc64, g64_0, g64_1, g64_2, g64_3, g64_4, g64_5, g64_6, g64_7, g64_8, g64_9, g64_10, g64_11, g64_12, mul8, mul8', mul4, mul4', nI_add, inT, nclN, ltT, ltF, leT, leF, eqT, eqF, nzF, m1F, m1T, shr, shg, bI0, bI1, bo_bI, bo_1, bo_0, eq10, eq00, frT1, frT2, frT3, fit0, fit1, fit2, fit3, true_and, and_true, ↓reduceIte, Nat.reduceAdd, Nat.reduceMul, and_self, not_false_eq_true, not_true_eq_false, Nat.zero_add, Nat.add_zero, Bool.false_eq_true, Bool.false_and]
theorem k_accept (hG : okG (gI I)) (hX : okX (gI I)) (hV : okV B (gI I) (vw I 102)) (hBl : B + 1 < 2147483648) (hl : can 8 (I 127)) (hH : HiC I nx mn U) : ∃ I' nx', hPo I I' nx' mn U ((isR (gM (gI I)) x && isR (gN (gI I)) y)) 3 (x.toNatClampNeg) (y.toNatClampNeg) ∧ ∀ P, Wp L xs (d+7) 128 0 [some (.ref (64)), some (.int (x)), some (.int (y))] [] (mk I J R Z) P = P (some (.int (if (isR (gM (gI I)) x && isR (gN (gI I)) y) = true then (stp (gI I) (vw I 102) 3 (x.toNatClampNeg) (y.toNatClampNeg)).1 else -1))) (mk I' J R Z) := by
  have hN : I 76 0 = nI (gN (gI I)) := hG.1.1
  have hM : I 76 2 = nI (gM (gI I)) := hG.2.1.1
  have h5 := hG.1.2
  have h8 := hG.2.1.2
  by_cases hx : isR (gM (gI I)) x = true
  · by_cases hy : isR (gN (gI I)) y = true
    · obtain ⟨c, hc, rfl⟩ := isR_t hx (by omega)
      obtain ⟨r, hr, rfl⟩ := isR_t hy (by omega)
      rw [hx, hy, nI_clamp (by omega), nI_clamp (by omega), Bool.true_and]
      obtain ⟨I', nx', a1, a2, a3, a4, a5⟩ := k_doByHand (L := L) (xs := xs) (d := d) (J := J) (R := R) (Z := Z) (w := 3) (c := c) (r := r) (by decide) hG hX hV hBl hl hH (fun _ => hc) (fun _ => hr)
      have hans := (okV_stp (w := 3) (c := c) (r := r) (by decide) hV hG hX (fun _ => hc) (fun _ => hr) hBl).2
      refine ⟨I', nx', ⟨a1, a2, a3, by rw [Bool.true_and]; exact a4⟩, fun P => ?_⟩
      simp (discharger := omega) only [↓w128_0, ↓w128_1, ↓w128_2, ↓w128_5, ↓w128_8, ↓w128_9, ↓w128_10, ↓w128_13, ↓w128_16, ↓w128_17, ↓w128_18, ↓w128_19, ↓w128_20, ↓w128_23, ↓w128_26, ↓w128_27, ↓k_isCommand hM, ↓k_isReplica hN, hx, hy, ↓a5, bI_t, ↓kc_i, ↓kc_l, ↓kc_r, ↓kc_n, rc64, g64_0, g64_1, g64_2, g64_3, g64_4, g64_5, g64_6, g64_7, g64_8, g64_9, g64_10, g64_11, g64_12, mul8, mul8', mul4, mul4', nI_add, inT, nclN, ltT, ltF, leT, leF, eqT, eqF, nzF, m1F, m1T, shr, shg, bI0, bI1, bo_bI, bo_1, bo_0, eq10, eq00, frT1, frT2, frT3, fit0, fit1, fit2, fit3, true_and, and_true, ↓reduceIte, Nat.reduceAdd, Nat.reduceMul, and_self, not_false_eq_true, not_true_eq_false, Nat.zero_add, Nat.add_zero] <;> rfl
    · have hy' := Bool.eq_false_iff.mpr hy
      rw [hx, hy', Bool.and_false]
      refine ⟨I, nx, hPo_no hl hH, fun P => ?_⟩
      simp (discharger := omega) only [↓w128_0, ↓w128_1, ↓w128_2, ↓w128_5, ↓w128_8, ↓w128_9, ↓w128_10, ↓w128_13, ↓w128_16, ↓w128_17, ↓w128_18, ↓w128_19, ↓w128_20, ↓w128_23, ↓w128_26, ↓w128_27, ↓k_isCommand hM, ↓k_isReplica hN, hx, hy', bI_t, bI_f, ↓kc_i, ↓kc_l, ↓kc_r, ↓kc_n, rc64, g64_0, g64_1, g64_2, g64_3, g64_4, g64_5, g64_6, g64_7, g64_8, g64_9, g64_10, g64_11, g64_12, mul8, mul8', mul4, mul4', nI_add, inT, nclN, ltT, ltF, leT, leF, eqT, eqF, nzF, m1F, m1T, shr, shg, bI0, bI1, bo_bI, bo_1, bo_0, eq10, eq00, frT1, frT2, frT3, fit0, fit1, fit2, fit3, true_and, and_true, ↓reduceIte, Nat.reduceAdd, Nat.reduceMul, and_self, not_false_eq_true, not_true_eq_false, Nat.zero_add, Nat.add_zero, Bool.false_eq_true, Bool.false_and]
  · have hx' := Bool.eq_false_iff.mpr hx
    rw [hx', Bool.false_and]
    refine ⟨I, nx, hPo_no hl hH, fun P => ?_⟩
    simp (discharger := omega) only [↓w128_0, ↓w128_1, ↓w128_2, ↓w128_5, ↓w128_8, ↓w128_9, ↓w128_10, ↓w128_13, ↓w128_16, ↓w128_17, ↓w128_18, ↓w128_19, ↓w128_20, ↓w128_23, ↓w128_26, ↓w128_27, ↓k_isCommand hM, ↓k_isReplica hN, hx', bI_f, ↓kc_i, ↓kc_l, ↓kc_r, ↓kc_n, rc64, g64_0, g64_1, g64_2, g64_3, g64_4, g64_5, g64_6, g64_7, g64_8, g64_9, g64_10, g64_11, g64_12, mul8, mul8', mul4, mul4', nI_add, inT, nclN, ltT, ltF, leT, leF, eqT, eqF, nzF, m1F, m1T, shr, shg, bI0, bI1, bo_bI, bo_1, bo_0, eq10, eq00, frT1, frT2, frT3, fit0, fit1, fit2, fit3, true_and, and_true, ↓reduceIte, Nat.reduceAdd, Nat.reduceMul, and_self, not_false_eq_true, not_true_eq_false, Nat.zero_add, Nat.add_zero, Bool.false_eq_true, Bool.false_and]
theorem k_settle (hG : okG (gI I)) (hX : okX (gI I)) (hV : okV B (gI I) (vw I 102)) (hBl : B + 1 < 2147483648) (hl : can 8 (I 127)) (hH : HiC I nx mn U) : ∃ I' nx', hPo I I' nx' mn U (isR (gM (gI I)) x) 4 (x.toNatClampNeg) (0) ∧ ∀ P, Wp L xs (d+7) 129 0 [some (.ref (64)), some (.int (x))] [] (mk I J R Z) P = P (some (.int (bI (isR (gM (gI I)) x && cnd (gI I) (vw I 102) 4 (x.toNatClampNeg) (0))))) (mk I' J R Z) := by
  have hN : I 76 0 = nI (gN (gI I)) := hG.1.1
  have hM : I 76 2 = nI (gM (gI I)) := hG.2.1.1
  have h5 := hG.1.2
  have h8 := hG.2.1.2
  by_cases hx : isR (gM (gI I)) x = true
  · obtain ⟨c, hc, rfl⟩ := isR_t hx (by omega)
    rw [hx, nI_clamp (by omega)]
    obtain ⟨I', nx', a1, a2, a3, a4, a5⟩ := k_doByHand (L := L) (xs := xs) (d := d) (J := J) (R := R) (Z := Z) (w := 4) (c := c) (r := 0) (by decide) hG hX hV hBl hl hH (fun _ => hc) (fun q => absurd q (by decide))
    have hans := (okV_stp (w := 4) (c := c) (r := 0) (by decide) hV hG hX (fun _ => hc) (fun q => absurd q (by decide)) hBl).2
    refine ⟨I', nx', ⟨a1, a2, a3, by rw [Bool.true_and]; exact a4⟩, fun P => ?_⟩
    rw [Bool.true_and]
    rcases hans with ⟨q1, q2⟩ | ⟨q1, q2⟩
    · rw [q2] at a5
      rw [q1]
      simp (discharger := omega) only [↓w129_0, ↓w129_1, ↓w129_2, ↓w129_5, ↓w129_8, ↓w129_9, ↓w129_10, ↓w129_11, ↓w129_12, ↓w129_15, ↓w129_16, ↓w129_19, ↓w129_20, ↓w129_23, ↓w129_24, ↓k_isCommand hM, ↓k_isReplica hN, hx, ↓a5, bI_t, ↓kc_i, ↓kc_l, ↓kc_r, ↓kc_n, rc64, g64_0, g64_1, g64_2, g64_3, g64_4, g64_5, g64_6, g64_7, g64_8, g64_9, g64_10, g64_11, g64_12, mul8, mul8', mul4, mul4', nI_add, inT, nclN, ltT, ltF, leT, leF, eqT, eqF, nzF, m1F, m1T, shr, shg, bI0, bI1, bo_bI, bo_1, bo_0, eq10, eq00, frT1, frT2, frT3, fit0, fit1, fit2, fit3, true_and, and_true, ↓reduceIte, Nat.reduceAdd, Nat.reduceMul, and_self, not_false_eq_true, not_true_eq_false, Nat.zero_add, Nat.add_zero] <;> rfl
    · rw [q1]
      have hv := isA_ne q2
      simp (discharger := omega) only [↓w129_0, ↓w129_1, ↓w129_2, ↓w129_5, ↓w129_8, ↓w129_9, ↓w129_10, ↓w129_11, ↓w129_12, ↓w129_15, ↓w129_16, ↓w129_19, ↓w129_20, ↓w129_23, ↓w129_24, ↓k_isCommand hM, ↓k_isReplica hN, hx, ↓a5, bI_t, ↓kc_i, ↓kc_l, ↓kc_r, ↓kc_n, rc64, g64_0, g64_1, g64_2, g64_3, g64_4, g64_5, g64_6, g64_7, g64_8, g64_9, g64_10, g64_11, g64_12, mul8, mul8', mul4, mul4', nI_add, inT, nclN, ltT, ltF, leT, leF, eqT, eqF, nzF, m1F, m1T, shr, shg, bI0, bI1, bo_bI, bo_1, bo_0, eq10, eq00, frT1, frT2, frT3, fit0, fit1, fit2, fit3, true_and, and_true, ↓reduceIte, Nat.reduceAdd, Nat.reduceMul, and_self, not_false_eq_true, not_true_eq_false, Nat.zero_add, Nat.add_zero, hv] <;> rfl
  · have hx' := Bool.eq_false_iff.mpr hx
    rw [hx']
    refine ⟨I, nx, hPo_no hl hH, fun P => ?_⟩
    simp (discharger := omega) only [↓w129_0, ↓w129_1, ↓w129_2, ↓w129_5, ↓w129_8, ↓w129_9, ↓w129_10, ↓w129_11, ↓w129_12, ↓w129_15, ↓w129_16, ↓w129_19, ↓w129_20, ↓w129_23, ↓w129_24, ↓k_isCommand hM, ↓k_isReplica hN, hx', bI_f, ↓kc_i, ↓kc_l, ↓kc_r, ↓kc_n, rc64, g64_0, g64_1, g64_2, g64_3, g64_4, g64_5, g64_6, g64_7, g64_8, g64_9, g64_10, g64_11, g64_12, mul8, mul8', mul4, mul4', nI_add, inT, nclN, ltT, ltF, leT, leF, eqT, eqF, nzF, m1F, m1T, shr, shg, bI0, bI1, bo_bI, bo_1, bo_0, eq10, eq00, frT1, frT2, frT3, fit0, fit1, fit2, fit3, true_and, and_true, ↓reduceIte, Nat.reduceAdd, Nat.reduceMul, and_self, not_false_eq_true, not_true_eq_false, Nat.zero_add, Nat.add_zero, Bool.false_eq_true, Bool.false_and]
theorem k_tell (hG : okG (gI I)) (hX : okX (gI I)) (hV : okV B (gI I) (vw I 102)) (hBl : B + 1 < 2147483648) (hl : can 8 (I 127)) (hH : HiC I nx mn U) : ∃ I' nx', hPo I I' nx' mn U ((isR (gM (gI I)) x && isR (gN (gI I)) y)) 5 (x.toNatClampNeg) (y.toNatClampNeg) ∧ ∀ P, Wp L xs (d+7) 130 0 [some (.ref (64)), some (.int (x)), some (.int (y))] [] (mk I J R Z) P = P (some (.int (bI ((isR (gM (gI I)) x && isR (gN (gI I)) y) && cnd (gI I) (vw I 102) 5 (x.toNatClampNeg) (y.toNatClampNeg))))) (mk I' J R Z) := by
  have hN : I 76 0 = nI (gN (gI I)) := hG.1.1
  have hM : I 76 2 = nI (gM (gI I)) := hG.2.1.1
  have h5 := hG.1.2
  have h8 := hG.2.1.2
  by_cases hx : isR (gM (gI I)) x = true
  · by_cases hy : isR (gN (gI I)) y = true
    · obtain ⟨c, hc, rfl⟩ := isR_t hx (by omega)
      obtain ⟨r, hr, rfl⟩ := isR_t hy (by omega)
      rw [hx, hy, nI_clamp (by omega), nI_clamp (by omega), Bool.true_and]
      obtain ⟨I', nx', a1, a2, a3, a4, a5⟩ := k_doByHand (L := L) (xs := xs) (d := d) (J := J) (R := R) (Z := Z) (w := 5) (c := c) (r := r) (by decide) hG hX hV hBl hl hH (fun _ => hc) (fun _ => hr)
      have hans := (okV_stp (w := 5) (c := c) (r := r) (by decide) hV hG hX (fun _ => hc) (fun _ => hr) hBl).2
      refine ⟨I', nx', ⟨a1, a2, a3, by rw [Bool.true_and]; exact a4⟩, fun P => ?_⟩
      rw [Bool.true_and]
      rcases hans with ⟨q1, q2⟩ | ⟨q1, q2⟩
      · rw [q2] at a5
        rw [q1]
        simp (discharger := omega) only [↓w130_0, ↓w130_1, ↓w130_2, ↓w130_5, ↓w130_8, ↓w130_9, ↓w130_10, ↓w130_13, ↓w130_16, ↓w130_17, ↓w130_18, ↓w130_19, ↓w130_20, ↓w130_23, ↓w130_24, ↓w130_27, ↓w130_28, ↓w130_31, ↓w130_32, ↓k_isCommand hM, ↓k_isReplica hN, hx, hy, ↓a5, bI_t, ↓kc_i, ↓kc_l, ↓kc_r, ↓kc_n, rc64, g64_0, g64_1, g64_2, g64_3, g64_4, g64_5, g64_6, g64_7, g64_8, g64_9, g64_10, g64_11, g64_12, mul8, mul8', mul4, mul4', nI_add, inT, nclN, ltT, ltF, leT, leF, eqT, eqF, nzF, m1F, m1T, shr, shg, bI0, bI1, bo_bI, bo_1, bo_0, eq10, eq00, frT1, frT2, frT3, fit0, fit1, fit2, fit3, true_and, and_true, ↓reduceIte, Nat.reduceAdd, Nat.reduceMul, and_self, not_false_eq_true, not_true_eq_false, Nat.zero_add, Nat.add_zero] <;> rfl
      · rw [q1]
        have hv := isA_ne q2
        simp (discharger := omega) only [↓w130_0, ↓w130_1, ↓w130_2, ↓w130_5, ↓w130_8, ↓w130_9, ↓w130_10, ↓w130_13, ↓w130_16, ↓w130_17, ↓w130_18, ↓w130_19, ↓w130_20, ↓w130_23, ↓w130_24, ↓w130_27, ↓w130_28, ↓w130_31, ↓w130_32, ↓k_isCommand hM, ↓k_isReplica hN, hx, hy, ↓a5, bI_t, ↓kc_i, ↓kc_l, ↓kc_r, ↓kc_n, rc64, g64_0, g64_1, g64_2, g64_3, g64_4, g64_5, g64_6, g64_7, g64_8, g64_9, g64_10, g64_11, g64_12, mul8, mul8', mul4, mul4', nI_add, inT, nclN, ltT, ltF, leT, leF, eqT, eqF, nzF, m1F, m1T, shr, shg, bI0, bI1, bo_bI, bo_1, bo_0, eq10, eq00, frT1, frT2, frT3, fit0, fit1, fit2, fit3, true_and, and_true, ↓reduceIte, Nat.reduceAdd, Nat.reduceMul, and_self, not_false_eq_true, not_true_eq_false, Nat.zero_add, Nat.add_zero, hv] <;> rfl
    · have hy' := Bool.eq_false_iff.mpr hy
      rw [hx, hy', Bool.and_false]
      refine ⟨I, nx, hPo_no hl hH, fun P => ?_⟩
      simp (discharger := omega) only [↓w130_0, ↓w130_1, ↓w130_2, ↓w130_5, ↓w130_8, ↓w130_9, ↓w130_10, ↓w130_13, ↓w130_16, ↓w130_17, ↓w130_18, ↓w130_19, ↓w130_20, ↓w130_23, ↓w130_24, ↓w130_27, ↓w130_28, ↓w130_31, ↓w130_32, ↓k_isCommand hM, ↓k_isReplica hN, hx, hy', bI_t, bI_f, ↓kc_i, ↓kc_l, ↓kc_r, ↓kc_n, rc64, g64_0, g64_1, g64_2, g64_3, g64_4, g64_5, g64_6, g64_7, g64_8, g64_9, g64_10, g64_11, g64_12, mul8, mul8', mul4, mul4', nI_add, inT, nclN, ltT, ltF, leT, leF, eqT, eqF, nzF, m1F, m1T, shr, shg, bI0, bI1, bo_bI, bo_1, bo_0, eq10, eq00, frT1, frT2, frT3, fit0, fit1, fit2, fit3, true_and, and_true, ↓reduceIte, Nat.reduceAdd, Nat.reduceMul, and_self, not_false_eq_true, not_true_eq_false, Nat.zero_add, Nat.add_zero, Bool.false_eq_true, Bool.false_and]
  · have hx' := Bool.eq_false_iff.mpr hx
    rw [hx', Bool.false_and]
    refine ⟨I, nx, hPo_no hl hH, fun P => ?_⟩
    simp (discharger := omega) only [↓w130_0, ↓w130_1, ↓w130_2, ↓w130_5, ↓w130_8, ↓w130_9, ↓w130_10, ↓w130_13, ↓w130_16, ↓w130_17, ↓w130_18, ↓w130_19, ↓w130_20, ↓w130_23, ↓w130_24, ↓w130_27, ↓w130_28, ↓w130_31, ↓w130_32, ↓k_isCommand hM, ↓k_isReplica hN, hx', bI_f, ↓kc_i, ↓kc_l, ↓kc_r, ↓kc_n, rc64, g64_0, g64_1, g64_2, g64_3, g64_4, g64_5, g64_6, g64_7, g64_8, g64_9, g64_10, g64_11, g64_12, mul8, mul8', mul4, mul4', nI_add, inT, nclN, ltT, ltF, leT, leF, eqT, eqF, nzF, m1F, m1T, shr, shg, bI0, bI1, bo_bI, bo_1, bo_0, eq10, eq00, frT1, frT2, frT3, fit0, fit1, fit2, fit3, true_and, and_true, ↓reduceIte, Nat.reduceAdd, Nat.reduceMul, and_self, not_false_eq_true, not_true_eq_false, Nat.zero_add, Nat.add_zero, Bool.false_eq_true, Bool.false_and]
theorem k_down (hG : okG (gI I)) (hX : okX (gI I)) (hV : okV B (gI I) (vw I 102)) (hBl : B + 1 < 2147483648) (hl : can 8 (I 127)) (hH : HiC I nx mn U) : ∃ I' nx', hPo I I' nx' mn U (isR (gN (gI I)) x) 8 (0) (x.toNatClampNeg) ∧ ∀ P, Wp L xs (d+7) 131 0 [some (.ref (64)), some (.int (x))] [] (mk I J R Z) P = P (some (.int (bI (isR (gN (gI I)) x && cnd (gI I) (vw I 102) 8 (0) (x.toNatClampNeg))))) (mk I' J R Z) := by
  have hN : I 76 0 = nI (gN (gI I)) := hG.1.1
  have hM : I 76 2 = nI (gM (gI I)) := hG.2.1.1
  have h5 := hG.1.2
  have h8 := hG.2.1.2
  by_cases hx : isR (gN (gI I)) x = true
  · obtain ⟨r, hr, rfl⟩ := isR_t hx (by omega)
    rw [hx, nI_clamp (by omega)]
    obtain ⟨I', nx', a1, a2, a3, a4, a5⟩ := k_doByHand (L := L) (xs := xs) (d := d) (J := J) (R := R) (Z := Z) (w := 8) (c := 0) (r := r) (by decide) hG hX hV hBl hl hH (fun q => absurd q (by decide)) (fun _ => hr)
    have hans := (okV_stp (w := 8) (c := 0) (r := r) (by decide) hV hG hX (fun q => absurd q (by decide)) (fun _ => hr) hBl).2
    refine ⟨I', nx', ⟨a1, a2, a3, by rw [Bool.true_and]; exact a4⟩, fun P => ?_⟩
    rw [Bool.true_and]
    rcases hans with ⟨q1, q2⟩ | ⟨q1, q2⟩
    · rw [q2] at a5
      rw [q1]
      simp (discharger := omega) only [↓w131_0, ↓w131_1, ↓w131_2, ↓w131_5, ↓w131_8, ↓w131_9, ↓w131_11, ↓w131_12, ↓w131_13, ↓w131_16, ↓w131_17, ↓w131_20, ↓w131_21, ↓w131_24, ↓w131_25, ↓k_isCommand hM, ↓k_isReplica hN, hx, ↓a5, bI_t, ↓kc_i, ↓kc_l, ↓kc_r, ↓kc_n, rc64, g64_0, g64_1, g64_2, g64_3, g64_4, g64_5, g64_6, g64_7, g64_8, g64_9, g64_10, g64_11, g64_12, mul8, mul8', mul4, mul4', nI_add, inT, nclN, ltT, ltF, leT, leF, eqT, eqF, nzF, m1F, m1T, shr, shg, bI0, bI1, bo_bI, bo_1, bo_0, eq10, eq00, frT1, frT2, frT3, fit0, fit1, fit2, fit3, true_and, and_true, ↓reduceIte, Nat.reduceAdd, Nat.reduceMul, and_self, not_false_eq_true, not_true_eq_false, Nat.zero_add, Nat.add_zero] <;> rfl
    · rw [q1]
      have hv := isA_ne q2
      simp (discharger := omega) only [↓w131_0, ↓w131_1, ↓w131_2, ↓w131_5, ↓w131_8, ↓w131_9, ↓w131_11, ↓w131_12, ↓w131_13, ↓w131_16, ↓w131_17, ↓w131_20, ↓w131_21, ↓w131_24, ↓w131_25, ↓k_isCommand hM, ↓k_isReplica hN, hx, ↓a5, bI_t, ↓kc_i, ↓kc_l, ↓kc_r, ↓kc_n, rc64, g64_0, g64_1, g64_2, g64_3, g64_4, g64_5, g64_6, g64_7, g64_8, g64_9, g64_10, g64_11, g64_12, mul8, mul8', mul4, mul4', nI_add, inT, nclN, ltT, ltF, leT, leF, eqT, eqF, nzF, m1F, m1T, shr, shg, bI0, bI1, bo_bI, bo_1, bo_0, eq10, eq00, frT1, frT2, frT3, fit0, fit1, fit2, fit3, true_and, and_true, ↓reduceIte, Nat.reduceAdd, Nat.reduceMul, and_self, not_false_eq_true, not_true_eq_false, Nat.zero_add, Nat.add_zero, hv] <;> rfl
  · have hx' := Bool.eq_false_iff.mpr hx
    rw [hx']
    refine ⟨I, nx, hPo_no hl hH, fun P => ?_⟩
    simp (discharger := omega) only [↓w131_0, ↓w131_1, ↓w131_2, ↓w131_5, ↓w131_8, ↓w131_9, ↓w131_11, ↓w131_12, ↓w131_13, ↓w131_16, ↓w131_17, ↓w131_20, ↓w131_21, ↓w131_24, ↓w131_25, ↓k_isCommand hM, ↓k_isReplica hN, hx', bI_f, ↓kc_i, ↓kc_l, ↓kc_r, ↓kc_n, rc64, g64_0, g64_1, g64_2, g64_3, g64_4, g64_5, g64_6, g64_7, g64_8, g64_9, g64_10, g64_11, g64_12, mul8, mul8', mul4, mul4', nI_add, inT, nclN, ltT, ltF, leT, leF, eqT, eqF, nzF, m1F, m1T, shr, shg, bI0, bI1, bo_bI, bo_1, bo_0, eq10, eq00, frT1, frT2, frT3, fit0, fit1, fit2, fit3, true_and, and_true, ↓reduceIte, Nat.reduceAdd, Nat.reduceMul, and_self, not_false_eq_true, not_true_eq_false, Nat.zero_add, Nat.add_zero, Bool.false_eq_true, Bool.false_and]
theorem k_up (hG : okG (gI I)) (hX : okX (gI I)) (hV : okV B (gI I) (vw I 102)) (hBl : B + 1 < 2147483648) (hl : can 8 (I 127)) (hH : HiC I nx mn U) : ∃ I' nx', hPo I I' nx' mn U (isR (gN (gI I)) x) 9 (0) (x.toNatClampNeg) ∧ ∀ P, Wp L xs (d+7) 132 0 [some (.ref (64)), some (.int (x))] [] (mk I J R Z) P = P (some (.int (bI (isR (gN (gI I)) x && cnd (gI I) (vw I 102) 9 (0) (x.toNatClampNeg))))) (mk I' J R Z) := by
  have hN : I 76 0 = nI (gN (gI I)) := hG.1.1
  have hM : I 76 2 = nI (gM (gI I)) := hG.2.1.1
  have h5 := hG.1.2
  have h8 := hG.2.1.2
  by_cases hx : isR (gN (gI I)) x = true
  · obtain ⟨r, hr, rfl⟩ := isR_t hx (by omega)
    rw [hx, nI_clamp (by omega)]
    obtain ⟨I', nx', a1, a2, a3, a4, a5⟩ := k_doByHand (L := L) (xs := xs) (d := d) (J := J) (R := R) (Z := Z) (w := 9) (c := 0) (r := r) (by decide) hG hX hV hBl hl hH (fun q => absurd q (by decide)) (fun _ => hr)
    have hans := (okV_stp (w := 9) (c := 0) (r := r) (by decide) hV hG hX (fun q => absurd q (by decide)) (fun _ => hr) hBl).2
    refine ⟨I', nx', ⟨a1, a2, a3, by rw [Bool.true_and]; exact a4⟩, fun P => ?_⟩
    rw [Bool.true_and]
    rcases hans with ⟨q1, q2⟩ | ⟨q1, q2⟩
    · rw [q2] at a5
      rw [q1]
      simp (discharger := omega) only [↓w132_0, ↓w132_1, ↓w132_2, ↓w132_5, ↓w132_8, ↓w132_9, ↓w132_11, ↓w132_12, ↓w132_13, ↓w132_16, ↓w132_17, ↓w132_20, ↓w132_21, ↓w132_24, ↓w132_25, ↓k_isCommand hM, ↓k_isReplica hN, hx, ↓a5, bI_t, ↓kc_i, ↓kc_l, ↓kc_r, ↓kc_n, rc64, g64_0, g64_1, g64_2, g64_3, g64_4, g64_5, g64_6, g64_7, g64_8, g64_9, g64_10, g64_11, g64_12, mul8, mul8', mul4, mul4', nI_add, inT, nclN, ltT, ltF, leT, leF, eqT, eqF, nzF, m1F, m1T, shr, shg, bI0, bI1, bo_bI, bo_1, bo_0, eq10, eq00, frT1, frT2, frT3, fit0, fit1, fit2, fit3, true_and, and_true, ↓reduceIte, Nat.reduceAdd, Nat.reduceMul, and_self, not_false_eq_true, not_true_eq_false, Nat.zero_add, Nat.add_zero] <;> rfl
    · rw [q1]
      have hv := isA_ne q2
      simp (discharger := omega) only [↓w132_0, ↓w132_1, ↓w132_2, ↓w132_5, ↓w132_8, ↓w132_9, ↓w132_11, ↓w132_12, ↓w132_13, ↓w132_16, ↓w132_17, ↓w132_20, ↓w132_21, ↓w132_24, ↓w132_25, ↓k_isCommand hM, ↓k_isReplica hN, hx, ↓a5, bI_t, ↓kc_i, ↓kc_l, ↓kc_r, ↓kc_n, rc64, g64_0, g64_1, g64_2, g64_3, g64_4, g64_5, g64_6, g64_7, g64_8, g64_9, g64_10, g64_11, g64_12, mul8, mul8', mul4, mul4', nI_add, inT, nclN, ltT, ltF, leT, leF, eqT, eqF, nzF, m1F, m1T, shr, shg, bI0, bI1, bo_bI, bo_1, bo_0, eq10, eq00, frT1, frT2, frT3, fit0, fit1, fit2, fit3, true_and, and_true, ↓reduceIte, Nat.reduceAdd, Nat.reduceMul, and_self, not_false_eq_true, not_true_eq_false, Nat.zero_add, Nat.add_zero, hv] <;> rfl
  · have hx' := Bool.eq_false_iff.mpr hx
    rw [hx']
    refine ⟨I, nx, hPo_no hl hH, fun P => ?_⟩
    simp (discharger := omega) only [↓w132_0, ↓w132_1, ↓w132_2, ↓w132_5, ↓w132_8, ↓w132_9, ↓w132_11, ↓w132_12, ↓w132_13, ↓w132_16, ↓w132_17, ↓w132_20, ↓w132_21, ↓w132_24, ↓w132_25, ↓k_isCommand hM, ↓k_isReplica hN, hx', bI_f, ↓kc_i, ↓kc_l, ↓kc_r, ↓kc_n, rc64, g64_0, g64_1, g64_2, g64_3, g64_4, g64_5, g64_6, g64_7, g64_8, g64_9, g64_10, g64_11, g64_12, mul8, mul8', mul4, mul4', nI_add, inT, nclN, ltT, ltF, leT, leF, eqT, eqF, nzF, m1F, m1T, shr, shg, bI0, bI1, bo_bI, bo_1, bo_0, eq10, eq00, frT1, frT2, frT3, fit0, fit1, fit2, fit3, true_and, and_true, ↓reduceIte, Nat.reduceAdd, Nat.reduceMul, and_self, not_false_eq_true, not_true_eq_false, Nat.zero_add, Nat.add_zero, Bool.false_eq_true, Bool.false_and]
theorem k_recover (hG : okG (gI I)) (hX : okX (gI I)) (hV : okV B (gI I) (vw I 102)) (hBl : B + 1 < 2147483648) (hl : can 8 (I 127)) (hH : HiC I nx mn U) : ∃ I' nx', hPo I I' nx' mn U ((isR (gM (gI I)) x && isR (gN (gI I)) y)) 6 (x.toNatClampNeg) (y.toNatClampNeg) ∧ ∀ P, Wp L xs (d+7) 133 0 [some (.ref (64)), some (.int (x)), some (.int (y))] [] (mk I J R Z) P = P (some (.int (if (isR (gM (gI I)) x && isR (gN (gI I)) y) = true then (stp (gI I) (vw I 102) 6 (x.toNatClampNeg) (y.toNatClampNeg)).1 else -1))) (mk I' J R Z) := by
  have hN : I 76 0 = nI (gN (gI I)) := hG.1.1
  have hM : I 76 2 = nI (gM (gI I)) := hG.2.1.1
  have h5 := hG.1.2
  have h8 := hG.2.1.2
  by_cases hx : isR (gM (gI I)) x = true
  · by_cases hy : isR (gN (gI I)) y = true
    · obtain ⟨c, hc, rfl⟩ := isR_t hx (by omega)
      obtain ⟨r, hr, rfl⟩ := isR_t hy (by omega)
      rw [hx, hy, nI_clamp (by omega), nI_clamp (by omega), Bool.true_and]
      obtain ⟨I', nx', a1, a2, a3, a4, a5⟩ := k_doByHand (L := L) (xs := xs) (d := d) (J := J) (R := R) (Z := Z) (w := 6) (c := c) (r := r) (by decide) hG hX hV hBl hl hH (fun _ => hc) (fun _ => hr)
      have hans := (okV_stp (w := 6) (c := c) (r := r) (by decide) hV hG hX (fun _ => hc) (fun _ => hr) hBl).2
      refine ⟨I', nx', ⟨a1, a2, a3, by rw [Bool.true_and]; exact a4⟩, fun P => ?_⟩
      simp (discharger := omega) only [↓w133_0, ↓w133_1, ↓w133_2, ↓w133_5, ↓w133_8, ↓w133_9, ↓w133_10, ↓w133_13, ↓w133_16, ↓w133_17, ↓w133_19, ↓w133_20, ↓w133_21, ↓w133_24, ↓w133_27, ↓w133_28, ↓k_isCommand hM, ↓k_isReplica hN, hx, hy, ↓a5, bI_t, ↓kc_i, ↓kc_l, ↓kc_r, ↓kc_n, rc64, g64_0, g64_1, g64_2, g64_3, g64_4, g64_5, g64_6, g64_7, g64_8, g64_9, g64_10, g64_11, g64_12, mul8, mul8', mul4, mul4', nI_add, inT, nclN, ltT, ltF, leT, leF, eqT, eqF, nzF, m1F, m1T, shr, shg, bI0, bI1, bo_bI, bo_1, bo_0, eq10, eq00, frT1, frT2, frT3, fit0, fit1, fit2, fit3, true_and, and_true, ↓reduceIte, Nat.reduceAdd, Nat.reduceMul, and_self, not_false_eq_true, not_true_eq_false, Nat.zero_add, Nat.add_zero] <;> rfl
    · have hy' := Bool.eq_false_iff.mpr hy
      rw [hx, hy', Bool.and_false]
      refine ⟨I, nx, hPo_no hl hH, fun P => ?_⟩
      simp (discharger := omega) only [↓w133_0, ↓w133_1, ↓w133_2, ↓w133_5, ↓w133_8, ↓w133_9, ↓w133_10, ↓w133_13, ↓w133_16, ↓w133_17, ↓w133_19, ↓w133_20, ↓w133_21, ↓w133_24, ↓w133_27, ↓w133_28, ↓k_isCommand hM, ↓k_isReplica hN, hx, hy', bI_t, bI_f, ↓kc_i, ↓kc_l, ↓kc_r, ↓kc_n, rc64, g64_0, g64_1, g64_2, g64_3, g64_4, g64_5, g64_6, g64_7, g64_8, g64_9, g64_10, g64_11, g64_12, mul8, mul8', mul4, mul4', nI_add, inT, nclN, ltT, ltF, leT, leF, eqT, eqF, nzF, m1F, m1T, shr, shg, bI0, bI1, bo_bI, bo_1, bo_0, eq10, eq00, frT1, frT2, frT3, fit0, fit1, fit2, fit3, true_and, and_true, ↓reduceIte, Nat.reduceAdd, Nat.reduceMul, and_self, not_false_eq_true, not_true_eq_false, Nat.zero_add, Nat.add_zero, Bool.false_eq_true, Bool.false_and]
  · have hx' := Bool.eq_false_iff.mpr hx
    rw [hx', Bool.false_and]
    refine ⟨I, nx, hPo_no hl hH, fun P => ?_⟩
    simp (discharger := omega) only [↓w133_0, ↓w133_1, ↓w133_2, ↓w133_5, ↓w133_8, ↓w133_9, ↓w133_10, ↓w133_13, ↓w133_16, ↓w133_17, ↓w133_19, ↓w133_20, ↓w133_21, ↓w133_24, ↓w133_27, ↓w133_28, ↓k_isCommand hM, ↓k_isReplica hN, hx', bI_f, ↓kc_i, ↓kc_l, ↓kc_r, ↓kc_n, rc64, g64_0, g64_1, g64_2, g64_3, g64_4, g64_5, g64_6, g64_7, g64_8, g64_9, g64_10, g64_11, g64_12, mul8, mul8', mul4, mul4', nI_add, inT, nclN, ltT, ltF, leT, leF, eqT, eqF, nzF, m1F, m1T, shr, shg, bI0, bI1, bo_bI, bo_1, bo_0, eq10, eq00, frT1, frT2, frT3, fit0, fit1, fit2, fit3, true_and, and_true, ↓reduceIte, Nat.reduceAdd, Nat.reduceMul, and_self, not_false_eq_true, not_true_eq_false, Nat.zero_add, Nat.add_zero, Bool.false_eq_true, Bool.false_and]
theorem k_run (hG : okG (gI I)) (hX : okX (gI I)) (hV : okV B (gI I) (vw I 102)) (hBl : B + 1 < 2147483648) (hl : can 8 (I 127)) (hH : HiC I nx mn U) : ∃ I' nx', hPo I I' nx' mn U (isR (gN (gI I)) x) 7 (0) (x.toNatClampNeg) ∧ ∀ P, Wp L xs (d+7) 134 0 [some (.ref (64)), some (.int (x))] [] (mk I J R Z) P = P (some (.int (if isR (gN (gI I)) x = true then (stp (gI I) (vw I 102) 7 (0) (x.toNatClampNeg)).1 else -1))) (mk I' J R Z) := by
  have hN : I 76 0 = nI (gN (gI I)) := hG.1.1
  have hM : I 76 2 = nI (gM (gI I)) := hG.2.1.1
  have h5 := hG.1.2
  have h8 := hG.2.1.2
  by_cases hx : isR (gN (gI I)) x = true
  · obtain ⟨r, hr, rfl⟩ := isR_t hx (by omega)
    rw [hx, nI_clamp (by omega)]
    obtain ⟨I', nx', a1, a2, a3, a4, a5⟩ := k_doByHand (L := L) (xs := xs) (d := d) (J := J) (R := R) (Z := Z) (w := 7) (c := 0) (r := r) (by decide) hG hX hV hBl hl hH (fun q => absurd q (by decide)) (fun _ => hr)
    have hans := (okV_stp (w := 7) (c := 0) (r := r) (by decide) hV hG hX (fun q => absurd q (by decide)) (fun _ => hr) hBl).2
    refine ⟨I', nx', ⟨a1, a2, a3, by rw [Bool.true_and]; exact a4⟩, fun P => ?_⟩
    simp (discharger := omega) only [↓w134_0, ↓w134_1, ↓w134_2, ↓w134_5, ↓w134_8, ↓w134_9, ↓w134_11, ↓w134_12, ↓w134_13, ↓w134_16, ↓w134_19, ↓w134_20, ↓k_isCommand hM, ↓k_isReplica hN, hx, ↓a5, bI_t, ↓kc_i, ↓kc_l, ↓kc_r, ↓kc_n, rc64, g64_0, g64_1, g64_2, g64_3, g64_4, g64_5, g64_6, g64_7, g64_8, g64_9, g64_10, g64_11, g64_12, mul8, mul8', mul4, mul4', nI_add, inT, nclN, ltT, ltF, leT, leF, eqT, eqF, nzF, m1F, m1T, shr, shg, bI0, bI1, bo_bI, bo_1, bo_0, eq10, eq00, frT1, frT2, frT3, fit0, fit1, fit2, fit3, true_and, and_true, ↓reduceIte, Nat.reduceAdd, Nat.reduceMul, and_self, not_false_eq_true, not_true_eq_false, Nat.zero_add, Nat.add_zero] <;> rfl
  · have hx' := Bool.eq_false_iff.mpr hx
    rw [hx']
    refine ⟨I, nx, hPo_no hl hH, fun P => ?_⟩
    simp (discharger := omega) only [↓w134_0, ↓w134_1, ↓w134_2, ↓w134_5, ↓w134_8, ↓w134_9, ↓w134_11, ↓w134_12, ↓w134_13, ↓w134_16, ↓w134_19, ↓w134_20, ↓k_isCommand hM, ↓k_isReplica hN, hx', bI_f, ↓kc_i, ↓kc_l, ↓kc_r, ↓kc_n, rc64, g64_0, g64_1, g64_2, g64_3, g64_4, g64_5, g64_6, g64_7, g64_8, g64_9, g64_10, g64_11, g64_12, mul8, mul8', mul4, mul4', nI_add, inT, nclN, ltT, ltF, leT, leF, eqT, eqF, nzF, m1F, m1T, shr, shg, bI0, bI1, bo_bI, bo_1, bo_0, eq10, eq00, frT1, frT2, frT3, fit0, fit1, fit2, fit3, true_and, and_true, ↓reduceIte, Nat.reduceAdd, Nat.reduceMul, and_self, not_false_eq_true, not_true_eq_false, Nat.zero_add, Nat.add_zero, Bool.false_eq_true, Bool.false_and]
theorem k_clean (hG : okG (gI I)) (hX : okX (gI I)) (hV : okV B (gI I) (vw I 102)) (hBl : B + 1 < 2147483648) (hl : can 8 (I 127)) (hH : HiC I nx mn U) : ∃ I' nx', hPo I I' nx' mn U true 10 0 0 ∧ ∀ P, Wp L xs (d+7) 135 0 [some (.ref (64))] [] (mk I J R Z) P = P (some (.int (stp (gI I) (vw I 102) 10 0 0).1)) (mk I' J R Z) := by
  obtain ⟨I', nx', a1, a2, a3, a4, a5⟩ := k_doByHand (L := L) (xs := xs) (d := d) (J := J) (R := R) (Z := Z) (w := 10) (c := 0) (r := 0) (by decide) hG hX hV hBl hl hH (fun q => absurd q (by decide)) (fun q => absurd q (by decide))
  refine ⟨I', nx', ⟨a1, a2, a3, by rw [Bool.true_and]; exact a4⟩, fun P => ?_⟩
  simp (discharger := omega) only [↓w135_0, ↓w135_1, ↓w135_3, ↓w135_4, ↓w135_5, ↓w135_8, ↓a5, ↓kc_i, ↓kc_l, ↓kc_r, ↓kc_n, rc64, g64_0, g64_1, g64_2, g64_3, g64_4, g64_5, g64_6, g64_7, g64_8, g64_9, g64_10, g64_11, g64_12, mul8, mul8', mul4, mul4', nI_add, inT, nclN, ltT, ltF, leT, leF, eqT, eqF, nzF, m1F, m1T, shr, shg, bI0, bI1, bo_bI, bo_1, bo_0, eq10, eq00, frT1, frT2, frT3, fit0, fit1, fit2, fit3, true_and, and_true, ↓reduceIte, Nat.reduceAdd, Nat.reduceMul, and_self, not_false_eq_true, not_true_eq_false, Nat.zero_add, Nat.add_zero]
/-- what the model's own keeping leaves -/
def kpI (I I' : Mi) : Prop := (∀ a, a ≠ 420 → a ≠ 455 → I' a = I a) ∧ ∀ k, k ≠ 47 → I' 420 k = I 420 k
theorem m_keeps (hs : smV G V0 V) (hH : HiM I G mn U) (h16 : mn ≤ 16) : ∃ I', kpI I I' ∧ HiM I' G (min (mn + 1) 16) (Upu U mn V0) ∧ ∀ P, Wp L xs (d+1) 265 0 [some (.ref (420)), none] [] (mk (pm I V) J R Z) P = P none (mk (pm I' V) J R Z) := by
  obtain ⟨hd, hu⟩ := hH
  by_cases hm : mn < 16
  · have hcp := fun P => m_copies (L := L) (xs := xs) (d := d) (P := P) (I := pm I V) (J := J) (R := R) (Z := Z) (fa := 451) (ta := 455) (nf := 291) (nt := 4656) (a := 0) (b := 291 * mn) (by decide) rfl (by decide) rfl (by decide) (by decide) (by omega) (by decide) (by decide)
    have e291 : nI 291 * nI mn = nI (291 * mn) := pk_mul _ _
    rw [pm_eq, pm_ne (by decide), st_pmne (by decide)] at hcp
    refine ⟨st (st I 455 (va_cpy (row V) (I 455) 0 (291 * mn) 291)) 420 (upd (I 420) 47 (nI (mn + 1))), ⟨fun a h1 h2 => by rw [st_ne h1, st_ne h2], fun k hk => by rw [st_eq, upd_ne hk]⟩, ⟨?_, ?_⟩, fun P => ?_⟩
    · rw [st_eq, upd_eq, Nat.min_eq_left (by omega)]
    · intro i hi
      rw [Nat.min_eq_left (by omega)] at hi
      unfold Upu
      rw [if_pos hm, st_ne (by decide), st_eq]
      by_cases him : i = mn
      · rw [if_pos him]
        refine ⟨V, hs, fun k hk => ?_⟩
        unfold va_cpy
        rw [if_pos (by omega), show 0 + (291 * i + k - 291 * mn) = k by rw [him]; omega]
      · rw [if_neg him]
        obtain ⟨g', q1, q3⟩ := hu i (by omega)
        refine ⟨g', q1, fun k hk => ?_⟩
        unfold va_cpy
        rw [if_neg (by omega)]; exact q3 k hk
    · have h47 : upd (I 420) 47 (nI mn + nI 1) = upd (I 420) 47 (nI (mn + 1)) := by rw [nI_add]
      simp (discharger := omega) only [↓w265_0, ↓w265_1, ↓w265_4, ↓w265_6, ↓w265_9, ↓w265_10, ↓w265_12, ↓w265_15, ↓w265_18, ↓w265_19, ↓w265_22, ↓w265_23, ↓w265_24, ↓w265_27, ↓w265_28, ↓w265_31, ↓w265_32, ↓w265_33, ↓w265_34, ↓w265_37, ↓w265_40, ↓w265_41, ↓w265_42, ↓w265_45, ↓w265_46, ↓w265_47, ↓w265_50, ↓w265_51, ↓w265_54, ↓w265_55, ↓w265_56, ↓w265_59, ↓w265_62, ↓w265_63, ↓w265_66, ↓w265_67, ↓w265_70, ↓w265_71, ↓w265_72, ↓w265_75, ↓w265_76, ↓w265_77, ↓w265_80, hd, ↓hcp, e291, ↓kc_i, ↓kc_l, ↓kc_r, ↓kc_n, rc420, g420_0, p420_0, g420_1, p420_1, g420_2, g420_3, p420_3, g420_4, p420_4, g420_5, p420_5, g420_6, p420_6, g420_7, p420_7, g420_8, p420_8, g420_9, p420_9, g420_10, g420_11, g420_12, g420_13, g420_14, g420_15, g420_16, g420_17, g420_18, g420_19, p420_19, g420_20, g420_21, g420_22, g420_23, g420_24, g420_25, g420_26, g420_27, g420_28, g420_29, g420_30, g420_31, g420_32, p420_32, g420_33, g420_34, g420_35, g420_36, g420_37, g420_38, g420_39, g420_40, g420_41, g420_42, g420_43, g420_44, g420_45, g420_46, g420_47, p420_47, g420_48, g420_49, p420_49, pm_eq, pm_ne, st_pm, st_pmne, rd1, rd2, rd3, rd4, rd5, rd6, rd2s, rd3s, rd4s, rd5s, rd7, rd8, rd9, rd10, rd11, rd0, rdc, wr1, wr2, wr3, wr4, wr5, wr6, wr2s, wr3s, wr4s, wr5s, wr7, wr8, wr9, wr10, wr11, wr0, wrc, st_ne, st_eq, st_st, mul8, mul8', mul4, mul4', nI_add, inT, nclN, ltT, ltF, leT, leF, eqT, eqF, nzF, m1F, m1T, shr, shg, bI0, bI1, bo_bI, bo_1, bo_0, eq10, eq00, frT1, frT2, frT3, fit0, fit1, fit2, fit3, true_and, and_true, ↓reduceIte, Nat.reduceAdd, Nat.reduceMul, and_self, not_false_eq_true, not_true_eq_false, Nat.zero_add, Nat.add_zero]
  · have hm' : mn = 16 := by omega
    subst hm'
    let sh : Nat → Nat → Int32 := fun n k => if k < n then I 455 (k + 291) else I 455 k
    have hloop : ∀ (P : Option Value → Hp → Prop) (n : Nat), n ≤ 4365 → Wp L xs (d+1) 265 11 [some (.ref (420)), some (.int (nI 0))] [] (mk (pm I V) J R Z) P = Wp L xs (d+1) 265 11 [some (.ref (420)), some (.int (nI n))] [] (mk (pm (st I 455 (sh n)) V) J R Z) P := by
      intro P n
      induction n with
      | zero =>
        intro _
        have : sh 0 = I 455 := by funext k; show (if k < 0 then _ else _) = _; rw [if_neg (by omega)]
        rw [this, st_id]
      | succ n ih =>
        intro hn
        rw [ih (by omega)]
        refine w265_11.trans ?_
        have e1 : sh n (n + 291) = I 455 (n + 291) := if_neg (by omega)
        have e2 : upd (sh n) n (I 455 (n + 291)) = sh (n + 1) := by
          funext k; unfold upd
          by_cases hk : k = n
          · subst hk; rw [if_pos rfl]; exact (if_pos (by omega)).symm
          · rw [if_neg hk]
            show (if k < n then _ else _) = (if k < n + 1 then _ else _)
            by_cases hk2 : k < n
            · rw [if_pos hk2, if_pos (by omega)]
            · rw [if_neg hk2, if_neg (by omega)]
        simp (discharger := omega) only [↓w265_0, ↓w265_1, ↓w265_4, ↓w265_6, ↓w265_9, ↓w265_10, ↓w265_12, ↓w265_15, ↓w265_18, ↓w265_19, ↓w265_22, ↓w265_23, ↓w265_24, ↓w265_27, ↓w265_28, ↓w265_31, ↓w265_32, ↓w265_33, ↓w265_34, ↓w265_37, ↓w265_40, ↓w265_41, ↓w265_42, ↓w265_45, ↓w265_46, ↓w265_47, ↓w265_50, ↓w265_51, ↓w265_54, ↓w265_55, ↓w265_56, ↓w265_59, ↓w265_62, ↓w265_63, ↓w265_66, ↓w265_67, ↓w265_70, ↓w265_71, ↓w265_72, ↓w265_75, ↓w265_76, ↓w265_77, ↓w265_80, rc420, g420_0, p420_0, g420_1, p420_1, g420_2, g420_3, p420_3, g420_4, p420_4, g420_5, p420_5, g420_6, p420_6, g420_7, p420_7, g420_8, p420_8, g420_9, p420_9, g420_10, g420_11, g420_12, g420_13, g420_14, g420_15, g420_16, g420_17, g420_18, g420_19, p420_19, g420_20, g420_21, g420_22, g420_23, g420_24, g420_25, g420_26, g420_27, g420_28, g420_29, g420_30, g420_31, g420_32, p420_32, g420_33, g420_34, g420_35, g420_36, g420_37, g420_38, g420_39, g420_40, g420_41, g420_42, g420_43, g420_44, g420_45, g420_46, g420_47, p420_47, g420_48, g420_49, p420_49, gi455, si455, pm_eq, pm_ne, st_pm, st_pmne, rd1, rd2, rd3, rd4, rd5, rd6, rd2s, rd3s, rd4s, rd5s, rd7, rd8, rd9, rd10, rd11, rd0, rdc, wr1, wr2, wr3, wr4, wr5, wr6, wr2s, wr3s, wr4s, wr5s, wr7, wr8, wr9, wr10, wr11, wr0, wrc, st_ne, st_eq, st_st, e1, e2, mul8, mul8', mul4, mul4', nI_add, inT, nclN, ltT, ltF, leT, leF, eqT, eqF, nzF, m1F, m1T, shr, shg, bI0, bI1, bo_bI, bo_1, bo_0, eq10, eq00, frT1, frT2, frT3, fit0, fit1, fit2, fit3, true_and, and_true, ↓reduceIte, Nat.reduceAdd, Nat.reduceMul, and_self, not_false_eq_true, not_true_eq_false, Nat.zero_add, Nat.add_zero]
    have hcp := fun (I : Mi) P => m_copies (L := L) (xs := xs) (d := d) (P := P) (I := pm I V) (J := J) (R := R) (Z := Z) (fa := 451) (ta := 455) (nf := 291) (nt := 4656) (a := 0) (b := 4365) (by decide) rfl (by decide) rfl (by decide) (by decide) (by decide) (by decide) (by decide)
    have e291 : nI 291 * nI 15 = nI 4365 := by decide
    have e15 : nI 16 - nI 1 = nI 15 := by decide
    have hcp' := fun (I : Mi) P => (hcp I P).trans (by rw [pm_eq, pm_ne (by decide), st_pmne (by decide)])
    refine ⟨st (st (st I 455 (sh 4365)) 420 (upd (I 420) 47 (nI 16))) 455 (va_cpy (row V) (sh 4365) 0 4365 291), ⟨fun a h1 h2 => by rw [st_ne h2, st_ne h1, st_ne h2], fun k hk => by rw [st_ne (by decide), st_eq, upd_ne hk]⟩, ⟨?_, ?_⟩, fun P => ?_⟩
    · rw [st_ne (by decide), st_eq, upd_eq]; rfl
    · intro i hi
      have hi' : i < 16 := by omega
      unfold Upu
      rw [if_neg (by omega), st_eq]
      by_cases him : i = 15
      · rw [if_pos him]
        refine ⟨V, hs, fun k hk => ?_⟩
        unfold va_cpy
        rw [if_pos (by omega), show 0 + (291 * i + k - 4365) = k by omega]
      · rw [if_neg him]
        obtain ⟨g', q1, q3⟩ := hu (i + 1) (by omega)
        refine ⟨g', q1, fun k hk => ?_⟩
        unfold va_cpy
        rw [if_neg (by omega)]
        show (if 291 * i + k < 4365 then I 455 (291 * i + k + 291) else I 455 (291 * i + k)) = _
        rw [if_pos (by omega), ← q3 k hk]
        exact congrArg (I 455) (by omega)
    · have hst : ∀ (q : Mi) (f g h : Nat → Int32), st (st (st q 455 f) 420 g) 455 h = st (st q 420 g) 455 h := fun q f g h => by rw [st_cm (show (455 : Nat) ≠ 420 by decide), st_st]
      simp (discharger := omega) only [↓w265_0, ↓w265_1, ↓w265_4, ↓w265_6, ↓w265_9, ↓w265_10, ↓w265_12, ↓w265_15, ↓w265_18, ↓w265_19, ↓w265_22, ↓w265_23, ↓w265_24, ↓w265_27, ↓w265_28, ↓w265_31, ↓w265_32, ↓w265_33, ↓w265_34, ↓w265_37, ↓w265_40, ↓w265_41, ↓w265_42, ↓w265_45, ↓w265_46, ↓w265_47, ↓w265_50, ↓w265_51, ↓w265_54, ↓w265_55, ↓w265_56, ↓w265_59, ↓w265_62, ↓w265_63, ↓w265_66, ↓w265_67, ↓w265_70, ↓w265_71, ↓w265_72, ↓w265_75, ↓w265_76, ↓w265_77, ↓w265_80, hd, ↓kc_i, ↓kc_l, ↓kc_r, ↓kc_n, rc420, g420_0, p420_0, g420_1, p420_1, g420_2, g420_3, p420_3, g420_4, p420_4, g420_5, p420_5, g420_6, p420_6, g420_7, p420_7, g420_8, p420_8, g420_9, p420_9, g420_10, g420_11, g420_12, g420_13, g420_14, g420_15, g420_16, g420_17, g420_18, g420_19, p420_19, g420_20, g420_21, g420_22, g420_23, g420_24, g420_25, g420_26, g420_27, g420_28, g420_29, g420_30, g420_31, g420_32, p420_32, g420_33, g420_34, g420_35, g420_36, g420_37, g420_38, g420_39, g420_40, g420_41, g420_42, g420_43, g420_44, g420_45, g420_46, g420_47, p420_47, g420_48, g420_49, p420_49, pm_eq, pm_ne, st_pm, st_pmne, rd1, rd2, rd3, rd4, rd5, rd6, rd2s, rd3s, rd4s, rd5s, rd7, rd8, rd9, rd10, rd11, rd0, rdc, wr1, wr2, wr3, wr4, wr5, wr6, wr2s, wr3s, wr4s, wr5s, wr7, wr8, wr9, wr10, wr11, wr0, wrc, st_ne, st_eq, st_st, mul8, mul8', mul4, mul4', nI_add, inT, nclN, ltT, ltF, leT, leF, eqT, eqF, nzF, m1F, m1T, shr, shg, bI0, bI1, bo_bI, bo_1, bo_0, eq10, eq00, frT1, frT2, frT3, fit0, fit1, fit2, fit3, true_and, and_true, ↓reduceIte, Nat.reduceAdd, Nat.reduceMul, and_self, not_false_eq_true, not_true_eq_false, Nat.zero_add, Nat.add_zero]
      rw [hloop P 4365 (Nat.le_refl _)]
      refine w265_11.trans ?_
      simp (discharger := omega) only [↓w265_0, ↓w265_1, ↓w265_4, ↓w265_6, ↓w265_9, ↓w265_10, ↓w265_12, ↓w265_15, ↓w265_18, ↓w265_19, ↓w265_22, ↓w265_23, ↓w265_24, ↓w265_27, ↓w265_28, ↓w265_31, ↓w265_32, ↓w265_33, ↓w265_34, ↓w265_37, ↓w265_40, ↓w265_41, ↓w265_42, ↓w265_45, ↓w265_46, ↓w265_47, ↓w265_50, ↓w265_51, ↓w265_54, ↓w265_55, ↓w265_56, ↓w265_59, ↓w265_62, ↓w265_63, ↓w265_66, ↓w265_67, ↓w265_70, ↓w265_71, ↓w265_72, ↓w265_75, ↓w265_76, ↓w265_77, ↓w265_80, hd, e15, e291, ↓hcp', ↓kc_i, ↓kc_l, ↓kc_r, ↓kc_n, rc420, g420_0, p420_0, g420_1, p420_1, g420_2, g420_3, p420_3, g420_4, p420_4, g420_5, p420_5, g420_6, p420_6, g420_7, p420_7, g420_8, p420_8, g420_9, p420_9, g420_10, g420_11, g420_12, g420_13, g420_14, g420_15, g420_16, g420_17, g420_18, g420_19, p420_19, g420_20, g420_21, g420_22, g420_23, g420_24, g420_25, g420_26, g420_27, g420_28, g420_29, g420_30, g420_31, g420_32, p420_32, g420_33, g420_34, g420_35, g420_36, g420_37, g420_38, g420_39, g420_40, g420_41, g420_42, g420_43, g420_44, g420_45, g420_46, g420_47, p420_47, g420_48, g420_49, p420_49, pm_eq, pm_ne, st_pm, st_pmne, rd1, rd2, rd3, rd4, rd5, rd6, rd2s, rd3s, rd4s, rd5s, rd7, rd8, rd9, rd10, rd11, rd0, rdc, wr1, wr2, wr3, wr4, wr5, wr6, wr2s, wr3s, wr4s, wr5s, wr7, wr8, wr9, wr10, wr11, wr0, wrc, st_ne, st_eq, st_st, upd_eq, upd_upd, mul8, mul8', mul4, mul4', nI_add, inT, nclN, ltT, ltF, leT, leF, eqT, eqF, nzF, m1F, m1T, shr, shg, bI0, bI1, bo_bI, bo_1, bo_0, eq10, eq00, frT1, frT2, frT3, fit0, fit1, fit2, fit3, true_and, and_true, ↓reduceIte, Nat.reduceAdd, Nat.reduceMul, and_self, not_false_eq_true, not_true_eq_false, Nat.zero_add, Nat.add_zero]
      refine congrArg (fun q => P none (mk (pm q V) J R Z)) ?_
      rw [st_cm (I := st (st I 455 (sh 4365)) 420 (upd (I 420) 47 (nI 15))) (show (455 : Nat) ≠ 420 by decide), st_st]
end E8
