section F0
variable {L : Nat} {xs : Nat → Int32} {d : Nat} {P : Option Value → Hp → Prop} {I : Mi} {J : Mj} {R : Mr} {Z : Mz} {r c k l N M o n m B a b t w nx mn s : Nat} {x y z : Int32} {V V' V0 : Vw} {f f1 f4 g : Nat → Int32} {G : Gv} {U : Uq}
/-- a call that used the trial alone -/
def trE (I I' : Mi) : Prop := (∀ a, (a < 114 ∨ 129 ≤ a) → I' a = I a) ∧ can 8 (I' 127) ∧ cS (vw I' 114)
theorem trE_r (hl : can 8 (I 127)) (ht : cS (vw I 114)) : trE I I := ⟨fun _ _ => rfl, hl, ht⟩
theorem sc_trE {I I' : Mi} (h : scE I I') (ht : cS (vw I 114)) : trE I I' := ⟨fun a ha => h.1 a (by omega) (by omega) (by omega), h.2, cS_cg (V := vw I 114) (fun j hj => (h.1 (114 + j) (by omega) (by omega) (by omega)).symm) ht⟩
theorem k_tryToRun (hG : okG (gI I)) (hV : okV B (gI I) (vw I 102)) (hl : can 8 (I 127)) (ht : cS (vw I 114)) (hr : r < gN (gI I)) : ∃ I', trE I I' ∧ (∀ j, j < 12 → I' (114 + j) = runV (gI I) (vw I 102) r j) ∧ ∀ P, Wp L xs (d+5) 164 0 [some (.ref (64)), some (.int (nI r))] [] (mk I J R Z) P = P none (mk I' J R Z) := by
  have h5 := hG.1.2
  have h8 := hG.2.1.2
  have hr5 : r < 5 := by omega
  have hcp := fun P => k_copyFrom (L := L) (xs := xs) (d := d + 3) (I := I) (J := J) (R := R) (Z := Z) (P := P) isS_102 isS_114 (by omega) (okV_cS hV) ht
  have hrp := fun P => k_runParts (L := L) (xs := xs) (d := d) (I := I) (J := J) (R := R) (Z := Z) (P := P) (V := vw I 102) (ky := gK (gI I)) isS_114 hr5 hG.2.1.1 h8 (fun c hc => hG.2.2.2 c hc) ((okV_S hG hV).2.2.2.2 r hr5)
  have hcan := rps_can (kd := I 77) (va := I 79) (ky := gK (gI I)) (M := gM (gI I)) (r := r) 8 (vw I 102, I 126 2, I 127) hl
  have hrun := okV_run hV hG hr
  generalize hq : rps (I 77) (I 79) (gK (gI I)) (gM (gI I)) r 8 (vw I 102, I 126 2, I 127) = q at *
  have hq1 : q.1 = runV (gI I) (vw I 102) r := hcan.1
  refine ⟨putS (lkI I q.2.1 q.2.2) 114 q.1, ⟨fun a ha => by rw [ps_ne (by omega), lkI_ne (by omega) (by omega)], fun k hk => by rw [ps_ne (by omega), lkI_7]; exact hcan.2 k hk, ?_⟩, fun j hj => by rw [ps_j hj, hq1], fun P => ?_⟩
  · refine cS_cg (V := q.1) (fun j hj => by show _ = putS _ 114 _ (114 + j); rw [ps_j hj]) ?_
    rw [hq1]; exact okV_cS hrun
  · simp (discharger := omega) only [↓w164_0, ↓w164_1, ↓w164_4, ↓w164_5, ↓w164_8, ↓w164_11, ↓w164_12, ↓w164_15, ↓w164_16, ↓w164_19, ↓w164_20, ↓w164_23, ↓w164_24, ↓hcp, ↓hrp, ↓kc_i, ↓kc_l, ↓kc_r, ↓kc_n, rc64, g64_0, g64_1, g64_2, g64_3, g64_4, g64_5, g64_6, g64_7, g64_8, g64_9, g64_10, g64_11, g64_12, rc126, g126_0, g126_1, g126_2, p126_2, rc114, g114_0, p114_0, g114_1, p114_1, g114_2, g114_3, g114_4, g114_5, g114_6, g114_7, g114_8, g114_9, g114_10, g114_11, g114_12, mul8, mul8', mul4, mul4', nI_add, inT, nclN, ltT, ltF, leT, leF, eqT, eqF, nzF, m1F, m1T, shr, shg, bI0, bI1, bo_bI, bo_1, bo_0, eq10, eq00, frT1, frT2, frT3, fit0, fit1, fit2, fit3, true_and, and_true, ↓reduceIte, Nat.reduceAdd, Nat.reduceMul, and_self, not_false_eq_true, not_true_eq_false, Nat.zero_add, Nat.add_zero]
def vRea (G : Gv) (V : Vw) (x : Int32) : Int32 := if isR (gN G) x = true then (fun r => cAt (runV G V r 1) r (nI 4) (nI 4) &&& (cAt (V 1) r (nI 4) (nI 4) ^^^ (-1))) x.toNatClampNeg else -1
theorem k_ready (hG : okG (gI I)) (hV : okV B (gI I) (vw I 102)) (hl : can 8 (I 127)) (ht : cS (vw I 114)) : ∃ I', trE I I' ∧ ∀ P, Wp L xs (d+6) 143 0 [some (.ref (64)), some (.int (x))] [] (mk I J R Z) P = P (some (.int (vRea (gI I) (vw I 102) x))) (mk I' J R Z) := by
  have hN : I 76 0 = nI (gN (gI I)) := hG.1.1
  have h5 := hG.1.2
  unfold vRea
  by_cases hx : isR (gN (gI I)) x = true
  · rw [if_pos hx]
    obtain ⟨r, hr, rfl⟩ := isR_t hx (by omega)
    rw [nI_clamp (by omega)]
    obtain ⟨I', h1, h2, h3⟩ := k_tryToRun (L := L) (xs := xs) (d := d) (J := J) (R := R) (Z := Z) hG hV hl ht hr
    refine ⟨I', h1, fun P => ?_⟩
    have e1 : I' 115 = runV (gI I) (vw I 102) r 1 := h2 1 (by decide)
    have e2 : I' 103 = I 103 := h1.1 103 (by omega)
    simp (discharger := omega) only [↓w143_0, ↓w143_1, ↓w143_2, ↓w143_5, ↓w143_8, ↓w143_9, ↓w143_10, ↓w143_11, ↓w143_12, ↓w143_15, ↓w143_16, ↓w143_19, ↓w143_20, ↓w143_21, ↓w143_22, ↓w143_25, ↓w143_26, ↓w143_29, ↓w143_30, ↓w143_31, ↓w143_32, ↓w143_35, ↓w143_36, ↓w143_37, ↓w143_38, ↓k_isReplica hN, ↓h3, ↓k_commandsAt' isS_102 (show r < 5 by omega), ↓k_commandsAt' isS_114 (show r < 5 by omega), hx, bI_t, ↓kc_i, ↓kc_l, ↓kc_r, ↓kc_n, rc64, g64_0, g64_1, g64_2, g64_3, g64_4, g64_5, g64_6, g64_7, g64_8, g64_9, g64_10, g64_11, g64_12, rc102, g102_0, p102_0, g102_1, p102_1, g102_2, g102_3, g102_4, g102_5, g102_6, g102_7, g102_8, g102_9, g102_10, g102_11, g102_12, rc114, g114_0, p114_0, g114_1, p114_1, g114_2, g114_3, g114_4, g114_5, g114_6, g114_7, g114_8, g114_9, g114_10, g114_11, g114_12, e1, e2, mul8, mul8', mul4, mul4', nI_add, inT, nclN, ltT, ltF, leT, leF, eqT, eqF, nzF, m1F, m1T, shr, shg, bI0, bI1, bo_bI, bo_1, bo_0, eq10, eq00, frT1, frT2, frT3, fit0, fit1, fit2, fit3, true_and, and_true, ↓reduceIte, Nat.reduceAdd, Nat.reduceMul, and_self, not_false_eq_true, not_true_eq_false, Nat.zero_add, Nat.add_zero]
    rfl
  · have hx' := Bool.eq_false_iff.mpr hx
    rw [if_neg hx]
    refine ⟨I, trE_r hl ht, fun P => ?_⟩
    simp (discharger := omega) only [↓w143_0, ↓w143_1, ↓w143_2, ↓w143_5, ↓w143_8, ↓w143_9, ↓w143_10, ↓w143_11, ↓w143_12, ↓w143_15, ↓w143_16, ↓w143_19, ↓w143_20, ↓w143_21, ↓w143_22, ↓w143_25, ↓w143_26, ↓w143_29, ↓w143_30, ↓w143_31, ↓w143_32, ↓w143_35, ↓w143_36, ↓w143_37, ↓w143_38, ↓k_isReplica hN, hx', bI_f, ↓kc_i, ↓kc_l, ↓kc_r, ↓kc_n, rc64, g64_0, g64_1, g64_2, g64_3, g64_4, g64_5, g64_6, g64_7, g64_8, g64_9, g64_10, g64_11, g64_12, mul8, mul8', mul4, mul4', nI_add, inT, nclN, ltT, ltF, leT, leF, eqT, eqF, nzF, m1F, m1T, shr, shg, bI0, bI1, bo_bI, bo_1, bo_0, eq10, eq00, frT1, frT2, frT3, fit0, fit1, fit2, fit3, true_and, and_true, ↓reduceIte, Nat.reduceAdd, Nat.reduceMul, and_self, not_false_eq_true, not_true_eq_false, Nat.zero_add, Nat.add_zero]
def vPla (G : Gv) (V : Vw) (x y : Int32) : Int32 := if isR (gN G) x = true ∧ isR 8 y = true then (fun r i => if pcn (rn (V 1) r) + i < pcn (rn (runV G V r 1) r) then runV G V r 6 (8 * r + (pcn (rn (V 1) r) + i)) else -1) x.toNatClampNeg y.toNatClampNeg else -1
theorem k_plan (hG : okG (gI I)) (hV : okV B (gI I) (vw I 102)) (hl : can 8 (I 127)) (ht : cS (vw I 114)) : ∃ I', trE I I' ∧ ∀ P, Wp L xs (d+6) 144 0 [some (.ref (64)), some (.int (x)), some (.int (y)), none] [] (mk I J R Z) P = P (some (.int (vPla (gI I) (vw I 102) x y))) (mk I' J R Z) := by
  have hN : I 76 0 = nI (gN (gI I)) := hG.1.1
  have h5 := hG.1.2
  unfold vPla
  by_cases hx : isR (gN (gI I)) x = true
  · by_cases hy : isR 8 y = true
    · rw [if_pos ⟨hx, hy⟩]
      obtain ⟨r, hr, rfl⟩ := isR_t hx (by omega)
      obtain ⟨i, hi, rfl⟩ := isR_t hy (by omega)
      rw [nI_clamp (by omega), nI_clamp (by omega)]
      obtain ⟨I', h1, h2, h3⟩ := k_tryToRun (L := L) (xs := xs) (d := d) (J := J) (R := R) (Z := Z) hG hV hl ht hr
      refine ⟨I', h1, fun P => ?_⟩
      have hrun := okV_run hV hG hr
      have n0 : I' 109 r = nI (pcn (rn (vw I 102 1) r)) := by rw [h1.1 109 (by omega)]; exact hV.2.1.2.2.2.2.2 r (by omega)
      have n1 : I' 121 r = nI (pcn (rn (runV (gI I) (vw I 102) r 1) r)) := by rw [show I' 121 = runV (gI I) (vw I 102) r 7 from h2 7 (by decide)]; exact hrun.2.1.2.2.2.2.2 r (by omega)
      have e6 : I' 120 = runV (gI I) (vw I 102) r 6 := h2 6 (by decide)
      have p0 := pcn_le (x := rn (vw I 102 1) r)
      have p1 := pcn_le (x := rn (runV (gI I) (vw I 102) r 1) r)
      dsimp only
      generalize pcn (rn (vw I 102 1) r) = a0 at *
      generalize pcn (rn (runV (gI I) (vw I 102) r 1) r) = a1 at *
      by_cases hlt : a0 + i < a1
      · rw [if_pos hlt]
        simp (discharger := omega) only [↓w144_0, ↓w144_1, ↓w144_2, ↓w144_5, ↓w144_8, ↓w144_9, ↓w144_12, ↓w144_13, ↓w144_15, ↓w144_18, ↓w144_19, ↓w144_20, ↓w144_21, ↓w144_22, ↓w144_25, ↓w144_26, ↓w144_29, ↓w144_32, ↓w144_33, ↓w144_34, ↓w144_35, ↓w144_36, ↓w144_37, ↓w144_38, ↓w144_39, ↓w144_42, ↓w144_45, ↓w144_46, ↓w144_47, ↓w144_50, ↓w144_51, ↓w144_54, ↓w144_57, ↓w144_58, ↓w144_59, ↓w144_62, ↓w144_63, ↓w144_66, ↓w144_67, ↓k_isReplica hN, ↓h3, ↓k_cellOf, hx, bI_t, ↓kc_i, ↓kc_l, ↓kc_r, ↓kc_n, rc64, g64_0, g64_1, g64_2, g64_3, g64_4, g64_5, g64_6, g64_7, g64_8, g64_9, g64_10, g64_11, g64_12, rc102, g102_0, p102_0, g102_1, p102_1, g102_2, g102_3, g102_4, g102_5, g102_6, g102_7, g102_8, g102_9, g102_10, g102_11, g102_12, rc114, g114_0, p114_0, g114_1, p114_1, g114_2, g114_3, g114_4, g114_5, g114_6, g114_7, g114_8, g114_9, g114_10, g114_11, g114_12, gi109, si109, gi121, si121, gi120, si120, n0, n1, e6, mul8, mul8', mul4, mul4', nI_add, inT, nclN, ltT, ltF, leT, leF, eqT, eqF, nzF, m1F, m1T, shr, shg, bI0, bI1, bo_bI, bo_1, bo_0, eq10, eq00, frT1, frT2, frT3, fit0, fit1, fit2, fit3, true_and, and_true, ↓reduceIte, Nat.reduceAdd, Nat.reduceMul, and_self, not_false_eq_true, not_true_eq_false, Nat.zero_add, Nat.add_zero]
      · rw [if_neg hlt]
        simp (discharger := omega) only [↓w144_0, ↓w144_1, ↓w144_2, ↓w144_5, ↓w144_8, ↓w144_9, ↓w144_12, ↓w144_13, ↓w144_15, ↓w144_18, ↓w144_19, ↓w144_20, ↓w144_21, ↓w144_22, ↓w144_25, ↓w144_26, ↓w144_29, ↓w144_32, ↓w144_33, ↓w144_34, ↓w144_35, ↓w144_36, ↓w144_37, ↓w144_38, ↓w144_39, ↓w144_42, ↓w144_45, ↓w144_46, ↓w144_47, ↓w144_50, ↓w144_51, ↓w144_54, ↓w144_57, ↓w144_58, ↓w144_59, ↓w144_62, ↓w144_63, ↓w144_66, ↓w144_67, ↓k_isReplica hN, ↓h3, hx, bI_t, ↓kc_i, ↓kc_l, ↓kc_r, ↓kc_n, rc64, g64_0, g64_1, g64_2, g64_3, g64_4, g64_5, g64_6, g64_7, g64_8, g64_9, g64_10, g64_11, g64_12, rc102, g102_0, p102_0, g102_1, p102_1, g102_2, g102_3, g102_4, g102_5, g102_6, g102_7, g102_8, g102_9, g102_10, g102_11, g102_12, rc114, g114_0, p114_0, g114_1, p114_1, g114_2, g114_3, g114_4, g114_5, g114_6, g114_7, g114_8, g114_9, g114_10, g114_11, g114_12, gi109, si109, gi121, si121, gi120, si120, n0, n1, mul8, mul8', mul4, mul4', nI_add, inT, nclN, ltT, ltF, leT, leF, eqT, eqF, nzF, m1F, m1T, shr, shg, bI0, bI1, bo_bI, bo_1, bo_0, eq10, eq00, frT1, frT2, frT3, fit0, fit1, fit2, fit3, true_and, and_true, ↓reduceIte, Nat.reduceAdd, Nat.reduceMul, and_self, not_false_eq_true, not_true_eq_false, Nat.zero_add, Nat.add_zero]
    · rw [if_neg (fun q => hy q.2)]
      refine ⟨I, trE_r hl ht, fun P => ?_⟩
      unfold isR at hy
      simp (discharger := omega) only [↓w144_0, ↓w144_1, ↓w144_2, ↓w144_5, ↓w144_8, ↓w144_9, ↓w144_12, ↓w144_13, ↓w144_15, ↓w144_18, ↓w144_19, ↓w144_20, ↓w144_21, ↓w144_22, ↓w144_25, ↓w144_26, ↓w144_29, ↓w144_32, ↓w144_33, ↓w144_34, ↓w144_35, ↓w144_36, ↓w144_37, ↓w144_38, ↓w144_39, ↓w144_42, ↓w144_45, ↓w144_46, ↓w144_47, ↓w144_50, ↓w144_51, ↓w144_54, ↓w144_57, ↓w144_58, ↓w144_59, ↓w144_62, ↓w144_63, ↓w144_66, ↓w144_67, ↓k_isReplica hN, hx, bI_t, ↓kc_i, ↓kc_l, ↓kc_r, ↓kc_n, rc64, g64_0, g64_1, g64_2, g64_3, g64_4, g64_5, g64_6, g64_7, g64_8, g64_9, g64_10, g64_11, g64_12, mul8, mul8', mul4, mul4', nI_add, inT, nclN, ltT, ltF, leT, leF, eqT, eqF, nzF, m1F, m1T, shr, shg, bI0, bI1, bo_bI, bo_1, bo_0, eq10, eq00, frT1, frT2, frT3, fit0, fit1, fit2, fit3, true_and, and_true, ↓reduceIte, Nat.reduceAdd, Nat.reduceMul, and_self, not_false_eq_true, not_true_eq_false, Nat.zero_add, Nat.add_zero]
      by_cases h1 : y < nI 0
      · simp [h1]
      · by_cases h2 : y < nI 8
        · exact absurd (by simp [Int32.not_lt.mp h1, h2]) hy
        · simp [h1, h2]
  · have hx' := Bool.eq_false_iff.mpr hx
    rw [if_neg (fun q => hx q.1)]
    refine ⟨I, trE_r hl ht, fun P => ?_⟩
    simp (discharger := omega) only [↓w144_0, ↓w144_1, ↓w144_2, ↓w144_5, ↓w144_8, ↓w144_9, ↓w144_12, ↓w144_13, ↓w144_15, ↓w144_18, ↓w144_19, ↓w144_20, ↓w144_21, ↓w144_22, ↓w144_25, ↓w144_26, ↓w144_29, ↓w144_32, ↓w144_33, ↓w144_34, ↓w144_35, ↓w144_36, ↓w144_37, ↓w144_38, ↓w144_39, ↓w144_42, ↓w144_45, ↓w144_46, ↓w144_47, ↓w144_50, ↓w144_51, ↓w144_54, ↓w144_57, ↓w144_58, ↓w144_59, ↓w144_62, ↓w144_63, ↓w144_66, ↓w144_67, ↓k_isReplica hN, hx', bI_f, ↓kc_i, ↓kc_l, ↓kc_r, ↓kc_n, rc64, g64_0, g64_1, g64_2, g64_3, g64_4, g64_5, g64_6, g64_7, g64_8, g64_9, g64_10, g64_11, g64_12, mul8, mul8', mul4, mul4', nI_add, inT, nclN, ltT, ltF, leT, leF, eqT, eqF, nzF, m1F, m1T, shr, shg, bI0, bI1, bo_bI, bo_1, bo_0, eq10, eq00, frT1, frT2, frT3, fit0, fit1, fit2, fit3, true_and, and_true, ↓reduceIte, Nat.reduceAdd, Nat.reduceMul, and_self, not_false_eq_true, not_true_eq_false, Nat.zero_add, Nat.add_zero]
def vPar (G : Gv) (V : Vw) (x y : Int32) : Int32 := if isR (gN G) x = true ∧ isR (gM G) y = true then (fun r c => if V 1 (8 * r + c) = nI 3 then prt (lns (V 1) (V 4) r z0) c else -1) x.toNatClampNeg y.toNatClampNeg else -1
theorem k_part (hG : okG (gI I)) (hl : can 8 (I 127)) (ht : cS (vw I 114)) : ∃ I', trE I I' ∧ ∀ P, Wp L xs (d+3) 145 0 [some (.ref (64)), some (.int (x)), some (.int (y))] [] (mk I J R Z) P = P (some (.int (vPar (gI I) (vw I 102) x y))) (mk I' J R Z) := by
  have hN : I 76 0 = nI (gN (gI I)) := hG.1.1
  have hM : I 76 2 = nI (gM (gI I)) := hG.2.1.1
  have h5 := hG.1.2
  have h8 := hG.2.1.2
  unfold vPar
  by_cases hx : isR (gN (gI I)) x = true
  · by_cases hy : isR (gM (gI I)) y = true
    · rw [if_pos ⟨hx, hy⟩]
      obtain ⟨r, hr, rfl⟩ := isR_t hx (by omega)
      obtain ⟨c, hc, rfl⟩ := isR_t hy (by omega)
      rw [nI_clamp (by omega), nI_clamp (by omega)]
      have hla := fun P => k_lookAt (L := L) (xs := xs) (d := d) (I := I) (J := J) (R := R) (Z := Z) (P := P) isS_102 (show r < 5 by omega)
      have hcn := lns_can (r := r) (f1 := I 103) (f4 := I 106) hl
      have e : (vw I 102) 1 = I 103 := rfl
      have e4 : (vw I 102) 4 = I 106 := rfl
      rw [e, e4]
      dsimp only
      by_cases h3 : I 103 (8 * r + c) = nI 3
      · rw [if_pos h3]
        refine ⟨lkI I (cAt (I 103) r (nI 3) (nI 3)) (lns (I 103) (I 106) r (I 127)), sc_trE (lkI_scE hcn.2) ht, fun P => ?_⟩
        have hpo := fun P => k_partOf (L := L) (xs := xs) (d := d + 2) (I := lkI I (cAt (I 103) r (nI 3) (nI 3)) (lns (I 103) (I 106) r (I 127))) (J := J) (R := R) (Z := Z) (P := P) (show c < 8 by omega)
        rw [lkI_7, hcn.1] at hpo
        simp (discharger := omega) only [↓w145_0, ↓w145_1, ↓w145_2, ↓w145_5, ↓w145_8, ↓w145_9, ↓w145_10, ↓w145_13, ↓w145_16, ↓w145_17, ↓w145_18, ↓w145_19, ↓w145_22, ↓w145_25, ↓w145_26, ↓w145_27, ↓w145_30, ↓w145_31, ↓w145_32, ↓w145_35, ↓w145_36, ↓w145_37, ↓w145_38, ↓w145_41, ↓w145_42, ↓w145_45, ↓w145_46, ↓w145_49, ↓w145_50, ↓w145_53, ↓w145_54, ↓w145_57, ↓k_isReplica hN, ↓k_isCommand hM, ↓k_cellOf, ↓hla, hx, hy, bI_t, ↓kc_i, ↓kc_l, ↓kc_r, ↓kc_n, rc64, g64_0, g64_1, g64_2, g64_3, g64_4, g64_5, g64_6, g64_7, g64_8, g64_9, g64_10, g64_11, g64_12, rc126, g126_0, g126_1, g126_2, p126_2, rc102, g102_0, p102_0, g102_1, p102_1, g102_2, g102_3, g102_4, g102_5, g102_6, g102_7, g102_8, g102_9, g102_10, g102_11, g102_12, gi103, si103, h3, mul8, mul8', mul4, mul4', nI_add, inT, nclN, ltT, ltF, leT, leF, eqT, eqF, nzF, m1F, m1T, shr, shg, bI0, bI1, bo_bI, bo_1, bo_0, eq10, eq00, frT1, frT2, frT3, fit0, fit1, fit2, fit3, true_and, and_true, ↓reduceIte, Nat.reduceAdd, Nat.reduceMul, and_self, not_false_eq_true, not_true_eq_false, Nat.zero_add, Nat.add_zero]
        rw [hcn.1]
        simp (discharger := omega) only [↓hpo, ↓w145_0, ↓w145_1, ↓w145_2, ↓w145_5, ↓w145_8, ↓w145_9, ↓w145_10, ↓w145_13, ↓w145_16, ↓w145_17, ↓w145_18, ↓w145_19, ↓w145_22, ↓w145_25, ↓w145_26, ↓w145_27, ↓w145_30, ↓w145_31, ↓w145_32, ↓w145_35, ↓w145_36, ↓w145_37, ↓w145_38, ↓w145_41, ↓w145_42, ↓w145_45, ↓w145_46, ↓w145_49, ↓w145_50, ↓w145_53, ↓w145_54, ↓w145_57, ↓kc_i, ↓kc_l, ↓kc_r, ↓kc_n, mul8, mul8', mul4, mul4', nI_add, inT, nclN, ltT, ltF, leT, leF, eqT, eqF, nzF, m1F, m1T, shr, shg, bI0, bI1, bo_bI, bo_1, bo_0, eq10, eq00, frT1, frT2, frT3, fit0, fit1, fit2, fit3, true_and, and_true, ↓reduceIte, Nat.reduceAdd, Nat.reduceMul, and_self, not_false_eq_true, not_true_eq_false, Nat.zero_add, Nat.add_zero]
      · rw [if_neg h3]
        refine ⟨I, trE_r hl ht, fun P => ?_⟩
        simp (discharger := omega) only [↓w145_0, ↓w145_1, ↓w145_2, ↓w145_5, ↓w145_8, ↓w145_9, ↓w145_10, ↓w145_13, ↓w145_16, ↓w145_17, ↓w145_18, ↓w145_19, ↓w145_22, ↓w145_25, ↓w145_26, ↓w145_27, ↓w145_30, ↓w145_31, ↓w145_32, ↓w145_35, ↓w145_36, ↓w145_37, ↓w145_38, ↓w145_41, ↓w145_42, ↓w145_45, ↓w145_46, ↓w145_49, ↓w145_50, ↓w145_53, ↓w145_54, ↓w145_57, ↓k_isReplica hN, ↓k_isCommand hM, ↓k_cellOf, hx, hy, bI_t, ↓kc_i, ↓kc_l, ↓kc_r, ↓kc_n, rc64, g64_0, g64_1, g64_2, g64_3, g64_4, g64_5, g64_6, g64_7, g64_8, g64_9, g64_10, g64_11, g64_12, rc102, g102_0, p102_0, g102_1, p102_1, g102_2, g102_3, g102_4, g102_5, g102_6, g102_7, g102_8, g102_9, g102_10, g102_11, g102_12, gi103, si103, h3, mul8, mul8', mul4, mul4', nI_add, inT, nclN, ltT, ltF, leT, leF, eqT, eqF, nzF, m1F, m1T, shr, shg, bI0, bI1, bo_bI, bo_1, bo_0, eq10, eq00, frT1, frT2, frT3, fit0, fit1, fit2, fit3, true_and, and_true, ↓reduceIte, Nat.reduceAdd, Nat.reduceMul, and_self, not_false_eq_true, not_true_eq_false, Nat.zero_add, Nat.add_zero]
    · have hy' := Bool.eq_false_iff.mpr hy
      rw [if_neg (fun q => hy q.2)]
      refine ⟨I, trE_r hl ht, fun P => ?_⟩
      simp (discharger := omega) only [↓w145_0, ↓w145_1, ↓w145_2, ↓w145_5, ↓w145_8, ↓w145_9, ↓w145_10, ↓w145_13, ↓w145_16, ↓w145_17, ↓w145_18, ↓w145_19, ↓w145_22, ↓w145_25, ↓w145_26, ↓w145_27, ↓w145_30, ↓w145_31, ↓w145_32, ↓w145_35, ↓w145_36, ↓w145_37, ↓w145_38, ↓w145_41, ↓w145_42, ↓w145_45, ↓w145_46, ↓w145_49, ↓w145_50, ↓w145_53, ↓w145_54, ↓w145_57, ↓k_isReplica hN, ↓k_isCommand hM, hx, hy', bI_t, bI_f, ↓kc_i, ↓kc_l, ↓kc_r, ↓kc_n, rc64, g64_0, g64_1, g64_2, g64_3, g64_4, g64_5, g64_6, g64_7, g64_8, g64_9, g64_10, g64_11, g64_12, mul8, mul8', mul4, mul4', nI_add, inT, nclN, ltT, ltF, leT, leF, eqT, eqF, nzF, m1F, m1T, shr, shg, bI0, bI1, bo_bI, bo_1, bo_0, eq10, eq00, frT1, frT2, frT3, fit0, fit1, fit2, fit3, true_and, and_true, ↓reduceIte, Nat.reduceAdd, Nat.reduceMul, and_self, not_false_eq_true, not_true_eq_false, Nat.zero_add, Nat.add_zero]
  · have hx' := Bool.eq_false_iff.mpr hx
    rw [if_neg (fun q => hx q.1)]
    refine ⟨I, trE_r hl ht, fun P => ?_⟩
    simp (discharger := omega) only [↓w145_0, ↓w145_1, ↓w145_2, ↓w145_5, ↓w145_8, ↓w145_9, ↓w145_10, ↓w145_13, ↓w145_16, ↓w145_17, ↓w145_18, ↓w145_19, ↓w145_22, ↓w145_25, ↓w145_26, ↓w145_27, ↓w145_30, ↓w145_31, ↓w145_32, ↓w145_35, ↓w145_36, ↓w145_37, ↓w145_38, ↓w145_41, ↓w145_42, ↓w145_45, ↓w145_46, ↓w145_49, ↓w145_50, ↓w145_53, ↓w145_54, ↓w145_57, ↓k_isReplica hN, hx', bI_f, ↓kc_i, ↓kc_l, ↓kc_r, ↓kc_n, rc64, g64_0, g64_1, g64_2, g64_3, g64_4, g64_5, g64_6, g64_7, g64_8, g64_9, g64_10, g64_11, g64_12, mul8, mul8', mul4, mul4', nI_add, inT, nclN, ltT, ltF, leT, leF, eqT, eqF, nzF, m1F, m1T, shr, shg, bI0, bI1, bo_bI, bo_1, bo_0, eq10, eq00, frT1, frT2, frT3, fit0, fit1, fit2, fit3, true_and, and_true, ↓reduceIte, Nat.reduceAdd, Nat.reduceMul, and_self, not_false_eq_true, not_true_eq_false, Nat.zero_add, Nat.add_zero]
/-! the model's -/
theorem m_triesRun (hG : okM I) (hV : okV B (mG I) V) (hr : r < gN (mG I)) (hc : can 291 (I 453)) : Wp L xs (d+6) 286 0 [some (.ref (420)), some (.int (nI r))] [] (mk (pm I V) J R Z) P = P (some (.int (runV (mG I) V r 7 r - V 7 r))) (mk (pm (st I 453 (row V)) (runV (mG I) V r)) J R Z) := by
  have h5 := hG.1.1.2
  have h1 := fun P => m_cpBefore (L := L) (xs := xs) (d := d + 5) (J := J) (R := R) (Z := Z) (P := P) (V := V) hc
  have h2 := fun P => m_runsAll (L := L) (xs := xs) (d := d) (I := st I 453 (row V)) (J := J) (R := R) (Z := Z) (P := P) (V := V) (M := gM (mG I)) (ky := gK (mG I)) (show r < 5 by omega) (by rw [st_ne (by decide)]; exact hG.1.2.1.1) hG.1.2.1.2 (fun c hc => by rw [st_ne (by decide), st_ne (by decide)]; exact ⟨hG.1.2.2.2 c hc, hG.2.2 c hc⟩) (okV_R hV (by omega))
  rw [st_ne (by decide), st_ne (by decide)] at h2
  simp (discharger := omega) only [↓w286_0, ↓w286_1, ↓w286_4, ↓w286_5, ↓w286_6, ↓w286_9, ↓w286_10, ↓w286_13, ↓w286_14, ↓w286_15, ↓w286_18, ↓h1, ↓h2, ↓kc_i, ↓kc_l, ↓kc_r, ↓kc_n, rc420, g420_0, p420_0, g420_1, p420_1, g420_2, g420_3, p420_3, g420_4, p420_4, g420_5, p420_5, g420_6, p420_6, g420_7, p420_7, g420_8, p420_8, g420_9, p420_9, g420_10, g420_11, g420_12, g420_13, g420_14, g420_15, g420_16, g420_17, g420_18, g420_19, p420_19, g420_20, g420_21, g420_22, g420_23, g420_24, g420_25, g420_26, g420_27, g420_28, g420_29, g420_30, g420_31, g420_32, p420_32, g420_33, g420_34, g420_35, g420_36, g420_37, g420_38, g420_39, g420_40, g420_41, g420_42, g420_43, g420_44, g420_45, g420_46, g420_47, p420_47, g420_48, g420_49, p420_49, pm_eq, pm_ne, st_pm, st_pmne, rd1, rd2, rd3, rd4, rd5, rd6, rd2s, rd3s, rd4s, rd5s, rd7, rd8, rd9, rd10, rd11, rd0, rdc, wr1, wr2, wr3, wr4, wr5, wr6, wr2s, wr3s, wr4s, wr5s, wr7, wr8, wr9, wr10, wr11, wr0, wrc, st_ne, st_eq, st_st, mul8, mul8', mul4, mul4', nI_add, inT, nclN, ltT, ltF, leT, leF, eqT, eqF, nzF, m1F, m1T, shr, shg, bI0, bI1, bo_bI, bo_1, bo_0, eq10, eq00, frT1, frT2, frT3, fit0, fit1, fit2, fit3, true_and, and_true, ↓reduceIte, Nat.reduceAdd, Nat.reduceMul, and_self, not_false_eq_true, not_true_eq_false, Nat.zero_add, Nat.add_zero]
  rfl
theorem okM_T (hG : okM I) : okM (st I 420 (upd (I 420) 0 (nI 0))) := by unfold okM; rw [mG_T]; exact hG
theorem m_ready (hG : okM I) (hV : okV B (mG I) V) (hc : can 291 (I 453)) : ∃ I', (∀ a, a ≠ 420 → a ≠ 453 → I' a = I a) ∧ I' 420 = upd (I 420) 0 (nI 0) ∧ can 291 (I' 453) ∧ ∀ P, Wp L xs (d+7) 287 0 [some (.ref (420)), some (.int (x)), none, none] [] (mk (pm I V) J R Z) P = P (some (.int (vRea (mG I) V x))) (mk (pm I' V) J R Z) := by
  have hN : I 422 0 = nI (gN (mG I)) := hG.1.1.1
  have hM : I 422 2 = nI (gM (mG I)) := hG.1.2.1.1
  have h5 := hG.1.1.2
  have h8 := hG.1.2.1.2
  unfold vRea
  by_cases hx : isR (gN (mG I)) x = true
  · rw [if_pos hx]
    obtain ⟨r, hr, rfl⟩ := isR_t hx (by omega)
    rw [nI_clamp (by omega)]
    refine ⟨st (st I 420 (upd (I 420) 0 (nI 0))) 453 (row V), fun a h1 h2 => by rw [st_ne h2, st_ne h1], by rw [st_ne (by decide), st_eq], fun k hk => by rw [st_eq]; exact row_ge hk, fun P => ?_⟩
    have hrun := okV_run hV hG.1 hr
    have h1 := fun P => m_triesRun (L := L) (xs := xs) (d := d) (I := st I 420 (upd (I 420) 0 (nI 0))) (J := J) (R := R) (Z := Z) (P := P) (V := V) (r := r) (okM_T hG) (by rw [mG_T]; exact hV) (by rw [mG_T]; exact hr) (by rw [st_ne (by decide)]; exact hc)
    rw [mG_T] at h1
    have hw0 := fun P => m_withStatus (L := L) (xs := xs) (d := d + 5) (I := st I 420 (upd (I 420) 0 (nI 0))) (J := J) (R := R) (Z := Z) (P := P) (V := V) (x := nI 4) (y := nI 4) (show r < 5 by omega) (mT (by decide) hM) h8
    have hw1 := fun P => m_withStatus (L := L) (xs := xs) (d := d + 5) (I := st (st I 420 (upd (I 420) 0 (nI 0))) 453 (row V)) (J := J) (R := R) (Z := Z) (P := P) (V := runV (mG I) V r) (x := nI 4) (y := nI 4) (show r < 5 by omega) (by rw [st_ne (by decide)]; exact mT (by decide) hM) h8
    rw [wSt_cAt h8 (by decide) (fun c h1 h2 => hV.2.1.2.2.2.2.1 r c (by omega) h1 h2)] at hw0
    rw [wSt_cAt h8 (by decide) (fun c h1 h2 => hrun.2.1.2.2.2.2.1 r c (by omega) h1 h2)] at hw1
    have hbk := fun P => m_cpBack (L := L) (xs := xs) (d := d + 6) (I := st (st I 420 (upd (I 420) 0 (nI 0))) 453 (row V)) (J := J) (R := R) (Z := Z) (P := P) (V := runV (mG I) V r) (V0 := V) (l := 453) (Or.inr rfl) st_eq
    simp (discharger := omega) only [↓w287_0, ↓w287_1, ↓w287_2, ↓w287_5, ↓w287_6, ↓w287_7, ↓w287_10, ↓w287_13, ↓w287_14, ↓w287_15, ↓w287_16, ↓w287_17, ↓w287_18, ↓w287_19, ↓w287_22, ↓w287_23, ↓w287_24, ↓w287_25, ↓w287_28, ↓w287_29, ↓w287_30, ↓w287_31, ↓w287_32, ↓w287_33, ↓w287_36, ↓w287_37, ↓w287_38, ↓w287_39, ↓w287_40, ↓w287_41, ↓w287_42, ↓w287_45, ↓w287_46, ↓w287_47, ↓w287_50, ↓w287_51, ↓w287_54, ↓w287_55, ↓m_isReplica (mN' hN), ↓h1, ↓hw0, ↓hw1, ↓hbk, hx, bI_t, ↓kc_i, ↓kc_l, ↓kc_r, ↓kc_n, rc420, g420_0, p420_0, g420_1, p420_1, g420_2, g420_3, p420_3, g420_4, p420_4, g420_5, p420_5, g420_6, p420_6, g420_7, p420_7, g420_8, p420_8, g420_9, p420_9, g420_10, g420_11, g420_12, g420_13, g420_14, g420_15, g420_16, g420_17, g420_18, g420_19, p420_19, g420_20, g420_21, g420_22, g420_23, g420_24, g420_25, g420_26, g420_27, g420_28, g420_29, g420_30, g420_31, g420_32, p420_32, g420_33, g420_34, g420_35, g420_36, g420_37, g420_38, g420_39, g420_40, g420_41, g420_42, g420_43, g420_44, g420_45, g420_46, g420_47, p420_47, g420_48, g420_49, p420_49, pm_eq, pm_ne, st_pm, st_pmne, rd1, rd2, rd3, rd4, rd5, rd6, rd2s, rd3s, rd4s, rd5s, rd7, rd8, rd9, rd10, rd11, rd0, rdc, wr1, wr2, wr3, wr4, wr5, wr6, wr2s, wr3s, wr4s, wr5s, wr7, wr8, wr9, wr10, wr11, wr0, wrc, st_ne, st_eq, st_st, mul8, mul8', mul4, mul4', nI_add, inT, nclN, ltT, ltF, leT, leF, eqT, eqF, nzF, m1F, m1T, shr, shg, bI0, bI1, bo_bI, bo_1, bo_0, eq10, eq00, frT1, frT2, frT3, fit0, fit1, fit2, fit3, true_and, and_true, ↓reduceIte, Nat.reduceAdd, Nat.reduceMul, and_self, not_false_eq_true, not_true_eq_false, Nat.zero_add, Nat.add_zero]
  · have hx' := Bool.eq_false_iff.mpr hx
    rw [if_neg hx]
    refine ⟨st I 420 (upd (I 420) 0 (nI 0)), fun a h1 h2 => st_ne h1, st_eq, by rw [st_ne (by decide)]; exact hc, fun P => ?_⟩
    simp (discharger := omega) only [↓w287_0, ↓w287_1, ↓w287_2, ↓w287_5, ↓w287_6, ↓w287_7, ↓w287_10, ↓w287_13, ↓w287_14, ↓w287_15, ↓w287_16, ↓w287_17, ↓w287_18, ↓w287_19, ↓w287_22, ↓w287_23, ↓w287_24, ↓w287_25, ↓w287_28, ↓w287_29, ↓w287_30, ↓w287_31, ↓w287_32, ↓w287_33, ↓w287_36, ↓w287_37, ↓w287_38, ↓w287_39, ↓w287_40, ↓w287_41, ↓w287_42, ↓w287_45, ↓w287_46, ↓w287_47, ↓w287_50, ↓w287_51, ↓w287_54, ↓w287_55, ↓m_isReplica (mN' hN), hx', bI_f, ↓kc_i, ↓kc_l, ↓kc_r, ↓kc_n, rc420, g420_0, p420_0, g420_1, p420_1, g420_2, g420_3, p420_3, g420_4, p420_4, g420_5, p420_5, g420_6, p420_6, g420_7, p420_7, g420_8, p420_8, g420_9, p420_9, g420_10, g420_11, g420_12, g420_13, g420_14, g420_15, g420_16, g420_17, g420_18, g420_19, p420_19, g420_20, g420_21, g420_22, g420_23, g420_24, g420_25, g420_26, g420_27, g420_28, g420_29, g420_30, g420_31, g420_32, p420_32, g420_33, g420_34, g420_35, g420_36, g420_37, g420_38, g420_39, g420_40, g420_41, g420_42, g420_43, g420_44, g420_45, g420_46, g420_47, p420_47, g420_48, g420_49, p420_49, pm_eq, pm_ne, st_pm, st_pmne, rd1, rd2, rd3, rd4, rd5, rd6, rd2s, rd3s, rd4s, rd5s, rd7, rd8, rd9, rd10, rd11, rd0, rdc, wr1, wr2, wr3, wr4, wr5, wr6, wr2s, wr3s, wr4s, wr5s, wr7, wr8, wr9, wr10, wr11, wr0, wrc, st_ne, st_eq, st_st, mul8, mul8', mul4, mul4', nI_add, inT, nclN, ltT, ltF, leT, leF, eqT, eqF, nzF, m1F, m1T, shr, shg, bI0, bI1, bo_bI, bo_1, bo_0, eq10, eq00, frT1, frT2, frT3, fit0, fit1, fit2, fit3, true_and, and_true, ↓reduceIte, Nat.reduceAdd, Nat.reduceMul, and_self, not_false_eq_true, not_true_eq_false, Nat.zero_add, Nat.add_zero]
theorem run_ge (hV : okV B G V) (hG : okG G) (hr : r < gN G) : pcn (rn (V 1) r) ≤ pcn (rn (runV G V r 1) r) := by
  have g8 := hG.2.1.2
  have g5 := hG.1.2
  exact (rps_ind (kd := G 1) (va := G 3) (ky := gK G) (fun W => pcn (rn (V 1) r) ≤ pcn (rn (W 1) r)) g8 (fun W c hc hcm hW hq => by
        have := (okR_1 (a := G 1 c) (b := G 3 c) (k := gK G c) hc g8 hW hcm).2.2
        rw [this]; exact Nat.le_succ_of_le hq) 8 V (okV_R hV (by omega)) (Nat.le_refl _)).1
theorem m_plan (hG : okM I) (hV : okV B (mG I) V) (hc : can 291 (I 453)) : ∃ I', (∀ a, a ≠ 420 → a ≠ 453 → I' a = I a) ∧ I' 420 = upd (I 420) 0 (nI 0) ∧ can 291 (I' 453) ∧ ∀ P, Wp L xs (d+7) 288 0 [some (.ref (420)), some (.int (x)), some (.int (y)), none, none, none] [] (mk (pm I V) J R Z) P = P (some (.int (vPla (mG I) V x y))) (mk (pm I' V) J R Z) := by
  have hN : I 422 0 = nI (gN (mG I)) := hG.1.1.1
  have h5 := hG.1.1.2
  have h8 := hG.1.2.1.2
  unfold vPla
  by_cases hx : isR (gN (mG I)) x = true
  · obtain ⟨r, hr, rfl⟩ := isR_t hx (by omega)
    by_cases hy0 : y < nI 0
    · have hy : ¬ isR 8 y = true := fun q => by
        unfold isR at q; rw [Bool.and_eq_true, decide_eq_true_eq] at q; exact absurd q.1 (Int32.not_le.mpr hy0)
      rw [if_neg (fun q => hy q.2)]
      refine ⟨st I 420 (upd (I 420) 0 (nI 0)), fun a h1 h2 => st_ne h1, st_eq, by rw [st_ne (by decide)]; exact hc, fun P => ?_⟩
      simp (discharger := omega) only [↓w288_0, ↓w288_1, ↓w288_2, ↓w288_5, ↓w288_6, ↓w288_7, ↓w288_10, ↓w288_13, ↓w288_14, ↓w288_17, ↓w288_18, ↓w288_19, ↓w288_20, ↓w288_23, ↓w288_26, ↓w288_27, ↓w288_28, ↓w288_29, ↓w288_30, ↓w288_31, ↓w288_32, ↓w288_33, ↓w288_34, ↓w288_37, ↓w288_39, ↓w288_40, ↓w288_42, ↓w288_45, ↓w288_46, ↓w288_49, ↓w288_52, ↓w288_54, ↓w288_55, ↓w288_56, ↓w288_57, ↓w288_58, ↓w288_59, ↓w288_60, ↓w288_63, ↓w288_64, ↓w288_66, ↓w288_67, ↓w288_70, ↓w288_71, ↓w288_72, ↓w288_75, ↓w288_76, ↓w288_79, ↓w288_81, ↓m_isReplica (mN' hN), hx, bI_t, ↓kc_i, ↓kc_l, ↓kc_r, ↓kc_n, rc420, g420_0, p420_0, g420_1, p420_1, g420_2, g420_3, p420_3, g420_4, p420_4, g420_5, p420_5, g420_6, p420_6, g420_7, p420_7, g420_8, p420_8, g420_9, p420_9, g420_10, g420_11, g420_12, g420_13, g420_14, g420_15, g420_16, g420_17, g420_18, g420_19, p420_19, g420_20, g420_21, g420_22, g420_23, g420_24, g420_25, g420_26, g420_27, g420_28, g420_29, g420_30, g420_31, g420_32, p420_32, g420_33, g420_34, g420_35, g420_36, g420_37, g420_38, g420_39, g420_40, g420_41, g420_42, g420_43, g420_44, g420_45, g420_46, g420_47, p420_47, g420_48, g420_49, p420_49, pm_eq, pm_ne, st_pm, st_pmne, rd1, rd2, rd3, rd4, rd5, rd6, rd2s, rd3s, rd4s, rd5s, rd7, rd8, rd9, rd10, rd11, rd0, rdc, wr1, wr2, wr3, wr4, wr5, wr6, wr2s, wr3s, wr4s, wr5s, wr7, wr8, wr9, wr10, wr11, wr0, wrc, st_ne, st_eq, st_st, mul8, mul8', mul4, mul4', nI_add, inT, nclN, ltT, ltF, leT, leF, eqT, eqF, nzF, m1F, m1T, shr, shg, bI0, bI1, bo_bI, bo_1, bo_0, eq10, eq00, frT1, frT2, frT3, fit0, fit1, fit2, fit3, true_and, and_true, ↓reduceIte, Nat.reduceAdd, Nat.reduceMul, and_self, not_false_eq_true, not_true_eq_false, Nat.zero_add, Nat.add_zero]
      simp [Int32.not_le.mpr hy0]
    · refine ⟨st (st I 420 (upd (I 420) 0 (nI 0))) 453 (row V), fun a h1 h2 => by rw [st_ne h2, st_ne h1], by rw [st_ne (by decide), st_eq], fun k hk => by rw [st_eq]; exact row_ge hk, fun P => ?_⟩
      have hrun := okV_run hV hG.1 hr
      have hge := run_ge hV hG.1 hr
      have h1 := fun P => m_triesRun (L := L) (xs := xs) (d := d) (I := st I 420 (upd (I 420) 0 (nI 0))) (J := J) (R := R) (Z := Z) (P := P) (V := V) (r := r) (okM_T hG) (by rw [mG_T]; exact hV) (by rw [mG_T]; exact hr) (by rw [st_ne (by decide)]; exact hc)
      rw [mG_T, hV.2.1.2.2.2.2.2 r (by omega), hrun.2.1.2.2.2.2.2 r (by omega), pk_sub hge] at h1
      have n0 := hV.2.1.2.2.2.2.2 r (show r < 5 by omega)
      have hbk := fun P => m_cpBack (L := L) (xs := xs) (d := d + 6) (I := st (st I 420 (upd (I 420) 0 (nI 0))) 453 (row V)) (J := J) (R := R) (Z := Z) (P := P) (V := runV (mG I) V r) (V0 := V) (l := 453) (Or.inr rfl) st_eq
      have p0 := pcn_le (x := rn (V 1) r)
      have p1 := pcn_le (x := rn (runV (mG I) V r 1) r)
      rw [nI_clamp (by omega)]
      dsimp only
      generalize pcn (rn (V 1) r) = a0 at *
      generalize pcn (rn (runV (mG I) V r 1) r) = a1 at *
      have hy0' : nI 0 ≤ y := Int32.not_lt.mp hy0
      rcases pk_ix y (show a1 - a0 < 2 ^ 31 by omega) with h | h | ⟨i, hi, rfl⟩
      · exact absurd h hy0
      · have hn : ¬ y < nI (a1 - a0) := Int32.not_lt.mpr h
        simp (discharger := omega) only [↓w288_0, ↓w288_1, ↓w288_2, ↓w288_5, ↓w288_6, ↓w288_7, ↓w288_10, ↓w288_13, ↓w288_14, ↓w288_17, ↓w288_18, ↓w288_19, ↓w288_20, ↓w288_23, ↓w288_26, ↓w288_27, ↓w288_28, ↓w288_29, ↓w288_30, ↓w288_31, ↓w288_32, ↓w288_33, ↓w288_34, ↓w288_37, ↓w288_39, ↓w288_40, ↓w288_42, ↓w288_45, ↓w288_46, ↓w288_49, ↓w288_52, ↓w288_54, ↓w288_55, ↓w288_56, ↓w288_57, ↓w288_58, ↓w288_59, ↓w288_60, ↓w288_63, ↓w288_64, ↓w288_66, ↓w288_67, ↓w288_70, ↓w288_71, ↓w288_72, ↓w288_75, ↓w288_76, ↓w288_79, ↓w288_81, ↓m_isReplica (mN' hN), ↓h1, ↓hbk, hx, bI_t, ↓kc_i, ↓kc_l, ↓kc_r, ↓kc_n, rc420, g420_0, p420_0, g420_1, p420_1, g420_2, g420_3, p420_3, g420_4, p420_4, g420_5, p420_5, g420_6, p420_6, g420_7, p420_7, g420_8, p420_8, g420_9, p420_9, g420_10, g420_11, g420_12, g420_13, g420_14, g420_15, g420_16, g420_17, g420_18, g420_19, p420_19, g420_20, g420_21, g420_22, g420_23, g420_24, g420_25, g420_26, g420_27, g420_28, g420_29, g420_30, g420_31, g420_32, p420_32, g420_33, g420_34, g420_35, g420_36, g420_37, g420_38, g420_39, g420_40, g420_41, g420_42, g420_43, g420_44, g420_45, g420_46, g420_47, p420_47, g420_48, g420_49, p420_49, gi451, si451, pm_eq, pm_ne, st_pm, st_pmne, rd1, rd2, rd3, rd4, rd5, rd6, rd2s, rd3s, rd4s, rd5s, rd7, rd8, rd9, rd10, rd11, rd0, rdc, wr1, wr2, wr3, wr4, wr5, wr6, wr2s, wr3s, wr4s, wr5s, wr7, wr8, wr9, wr10, wr11, wr0, wrc, st_ne, st_eq, st_st, n0, hy0', h, mul8, mul8', mul4, mul4', nI_add, inT, nclN, ltT, ltF, leT, leF, eqT, eqF, nzF, m1F, m1T, shr, shg, bI0, bI1, bo_bI, bo_1, bo_0, eq10, eq00, frT1, frT2, frT3, fit0, fit1, fit2, fit3, true_and, and_true, ↓reduceIte, Nat.reduceAdd, Nat.reduceMul, and_self, not_false_eq_true, not_true_eq_false, Nat.zero_add, Nat.add_zero]
        by_cases hy : isR 8 y = true
        · rw [if_pos hy]
          obtain ⟨i, hi, rfl⟩ := isR_t hy (by omega)
          rw [nI_clamp (by omega), if_neg (by have := (nI_leI (a := a1 - a0) (b := i) (by omega) (by omega)).mp h; omega)]
        · rw [if_neg hy]
      · rw [if_pos ⟨hx, isR_nI (by omega) (by omega)⟩, nI_clamp (by omega), if_pos (by omega)]
        simp (discharger := omega) only [↓w288_0, ↓w288_1, ↓w288_2, ↓w288_5, ↓w288_6, ↓w288_7, ↓w288_10, ↓w288_13, ↓w288_14, ↓w288_17, ↓w288_18, ↓w288_19, ↓w288_20, ↓w288_23, ↓w288_26, ↓w288_27, ↓w288_28, ↓w288_29, ↓w288_30, ↓w288_31, ↓w288_32, ↓w288_33, ↓w288_34, ↓w288_37, ↓w288_39, ↓w288_40, ↓w288_42, ↓w288_45, ↓w288_46, ↓w288_49, ↓w288_52, ↓w288_54, ↓w288_55, ↓w288_56, ↓w288_57, ↓w288_58, ↓w288_59, ↓w288_60, ↓w288_63, ↓w288_64, ↓w288_66, ↓w288_67, ↓w288_70, ↓w288_71, ↓w288_72, ↓w288_75, ↓w288_76, ↓w288_79, ↓w288_81, ↓m_isReplica (mN' hN), ↓h1, ↓hbk, hx, bI_t, ↓kc_i, ↓kc_l, ↓kc_r, ↓kc_n, rc420, g420_0, p420_0, g420_1, p420_1, g420_2, g420_3, p420_3, g420_4, p420_4, g420_5, p420_5, g420_6, p420_6, g420_7, p420_7, g420_8, p420_8, g420_9, p420_9, g420_10, g420_11, g420_12, g420_13, g420_14, g420_15, g420_16, g420_17, g420_18, g420_19, p420_19, g420_20, g420_21, g420_22, g420_23, g420_24, g420_25, g420_26, g420_27, g420_28, g420_29, g420_30, g420_31, g420_32, p420_32, g420_33, g420_34, g420_35, g420_36, g420_37, g420_38, g420_39, g420_40, g420_41, g420_42, g420_43, g420_44, g420_45, g420_46, g420_47, p420_47, g420_48, g420_49, p420_49, gi451, si451, pm_eq, pm_ne, st_pm, st_pmne, rd1, rd2, rd3, rd4, rd5, rd6, rd2s, rd3s, rd4s, rd5s, rd7, rd8, rd9, rd10, rd11, rd0, rdc, wr1, wr2, wr3, wr4, wr5, wr6, wr2s, wr3s, wr4s, wr5s, wr7, wr8, wr9, wr10, wr11, wr0, wrc, st_ne, st_eq, st_st, n0, hy0', mul8, mul8', mul4, mul4', nI_add, inT, nclN, ltT, ltF, leT, leF, eqT, eqF, nzF, m1F, m1T, shr, shg, bI0, bI1, bo_bI, bo_1, bo_0, eq10, eq00, frT1, frT2, frT3, fit0, fit1, fit2, fit3, true_and, and_true, ↓reduceIte, Nat.reduceAdd, Nat.reduceMul, and_self, not_false_eq_true, not_true_eq_false, Nat.zero_add, Nat.add_zero]
  · have hx' := Bool.eq_false_iff.mpr hx
    rw [if_neg (fun q => hx q.1)]
    refine ⟨st I 420 (upd (I 420) 0 (nI 0)), fun a h1 h2 => st_ne h1, st_eq, by rw [st_ne (by decide)]; exact hc, fun P => ?_⟩
    simp (discharger := omega) only [↓w288_0, ↓w288_1, ↓w288_2, ↓w288_5, ↓w288_6, ↓w288_7, ↓w288_10, ↓w288_13, ↓w288_14, ↓w288_17, ↓w288_18, ↓w288_19, ↓w288_20, ↓w288_23, ↓w288_26, ↓w288_27, ↓w288_28, ↓w288_29, ↓w288_30, ↓w288_31, ↓w288_32, ↓w288_33, ↓w288_34, ↓w288_37, ↓w288_39, ↓w288_40, ↓w288_42, ↓w288_45, ↓w288_46, ↓w288_49, ↓w288_52, ↓w288_54, ↓w288_55, ↓w288_56, ↓w288_57, ↓w288_58, ↓w288_59, ↓w288_60, ↓w288_63, ↓w288_64, ↓w288_66, ↓w288_67, ↓w288_70, ↓w288_71, ↓w288_72, ↓w288_75, ↓w288_76, ↓w288_79, ↓w288_81, ↓m_isReplica (mN' hN), hx', bI_f, ↓kc_i, ↓kc_l, ↓kc_r, ↓kc_n, rc420, g420_0, p420_0, g420_1, p420_1, g420_2, g420_3, p420_3, g420_4, p420_4, g420_5, p420_5, g420_6, p420_6, g420_7, p420_7, g420_8, p420_8, g420_9, p420_9, g420_10, g420_11, g420_12, g420_13, g420_14, g420_15, g420_16, g420_17, g420_18, g420_19, p420_19, g420_20, g420_21, g420_22, g420_23, g420_24, g420_25, g420_26, g420_27, g420_28, g420_29, g420_30, g420_31, g420_32, p420_32, g420_33, g420_34, g420_35, g420_36, g420_37, g420_38, g420_39, g420_40, g420_41, g420_42, g420_43, g420_44, g420_45, g420_46, g420_47, p420_47, g420_48, g420_49, p420_49, pm_eq, pm_ne, st_pm, st_pmne, rd1, rd2, rd3, rd4, rd5, rd6, rd2s, rd3s, rd4s, rd5s, rd7, rd8, rd9, rd10, rd11, rd0, rdc, wr1, wr2, wr3, wr4, wr5, wr6, wr2s, wr3s, wr4s, wr5s, wr7, wr8, wr9, wr10, wr11, wr0, wrc, st_ne, st_eq, st_st, mul8, mul8', mul4, mul4', nI_add, inT, nclN, ltT, ltF, leT, leF, eqT, eqF, nzF, m1F, m1T, shr, shg, bI0, bI1, bo_bI, bo_1, bo_0, eq10, eq00, frT1, frT2, frT3, fit0, fit1, fit2, fit3, true_and, and_true, ↓reduceIte, Nat.reduceAdd, Nat.reduceMul, and_self, not_false_eq_true, not_true_eq_false, Nat.zero_add, Nat.add_zero]
theorem llc_ww (hD : okD M f1 f4 r) (h8 : M ≤ 8) (h : cm f1 r c) : ll f1 f4 r (cAt f1 r (nI 3) (nI 3)) c o ↔ o = c ∨ ww f1 f4 r c o := by
  have hc := (cm_iff.mp h).1
  constructor
  · intro q
    refine ll_least (fun o => o = c ∨ ww f1 f4 r c o) hc (Or.inl rfl) ?_ q
    intro a o ha ho h1 h2 h3 h4
    have e := ww_E ha ((f0_tb ho).mpr ⟨h2, h3, h4⟩)
    rcases h1 with h1 | h1
    · subst h1; exact Or.inr e
    · exact Or.inr (ww_t ha hc h1 e)
  · rintro (q | q)
    · subst q; exact ll_self hc (cm_rn h)
    · have key := ww_l (fun a o => ll f1 f4 r (cAt f1 r (nI 3) (nI 3)) c a → ll f1 f4 r (cAt f1 r (nI 3) (nI 3)) c o) (by
          intro a o ha he h1
          have he' := (f0_tb (tb_lt he)).mp he
          exact ll_clo hc (cm_rn h) ha (by have := hD.2 a ha o he'.2.1; omega) h1 he'.1 he'.2.1 he'.2.2) (by
          intro a b c' hb h1 h2 h3
          exact h2 (h1 h3)) hc q
      exact key (ll_self hc (cm_rn h))
theorem mptc (hD : okD M f1 f4 r) (h8 : M ≤ 8) (h : cm f1 r c) : mpt M f1 f4 r c (wSt M f1 r (nI 3) (nI 3)) = prt (lns f1 f4 r z0) c := by
  have hc := (cm_iff.mp h).1
  rw [wSt_cAt h8 (by decide) hD.1]
  apply tb_ext
  intro o _
  rw [Bool.eq_iff_iff, prt_tb hc]
  unfold mpt
  rw [tb_bm (by decide), lea_eq h8 hD, lea_eq h8 hD]
  simp only [Bool.and_eq_true, decide_eq_true_eq, tb_and]
  constructor
  · rintro ⟨h1, ⟨h2, h3⟩, h4⟩
    have h2' := (llc_ww hD h8 h).mp h2
    have h4' := (llc_ww hD h8 h3).mp h4
    rcases h2' with q | q
    · exact Or.inl q
    · rcases h4' with q' | q'
      · exact Or.inl q'.symm
      · exact Or.inr ⟨h1, q, q'⟩
  · rintro (h1 | ⟨h1, h2, h3⟩)
    · subst h1
      exact ⟨hc, ⟨(llc_ww hD h8 h).mpr (Or.inl rfl), h⟩, (llc_ww hD h8 h).mpr (Or.inl rfl)⟩
    · have ho := ww_cm h1 h3
      exact ⟨h1, ⟨(llc_ww hD h8 h).mpr (Or.inr h2), ho⟩, (llc_ww hD h8 ho).mpr (Or.inr h3)⟩
theorem m_part (hG : okM I) (hV : okV B (mG I) V) : Wp L xs (d+4) 289 0 [some (.ref (420)), some (.int (x)), some (.int (y))] [] (mk (pm I V) J R Z) P = P (some (.int (vPar (mG I) V x y))) (mk (pm (st I 420 (upd (I 420) 0 (nI 0))) V) J R Z) := by
  have hN : I 422 0 = nI (gN (mG I)) := hG.1.1.1
  have hM : I 422 2 = nI (gM (mG I)) := hG.1.2.1.1
  have h5 := hG.1.1.2
  have h8 := hG.1.2.1.2
  unfold vPar
  by_cases hx : isR (gN (mG I)) x = true
  · by_cases hy : isR (gM (mG I)) y = true
    · rw [if_pos ⟨hx, hy⟩]
      obtain ⟨r, hr, rfl⟩ := isR_t hx (by omega)
      obtain ⟨c, hc, rfl⟩ := isR_t hy (by omega)
      rw [nI_clamp (by omega), nI_clamp (by omega)]
      dsimp only
      have hws := fun P => m_withStatus (L := L) (xs := xs) (d := d + 2) (I := st I 420 (upd (I 420) 0 (nI 0))) (J := J) (R := R) (Z := Z) (P := P) (V := V) (x := nI 3) (y := nI 3) (show r < 5 by omega) (mT (by decide) hM) h8
      have hpo := fun (z : Int32) P => m_partOf (L := L) (xs := xs) (d := d) (I := st I 420 (upd (I 420) 0 (nI 0))) (J := J) (R := R) (Z := Z) (P := P) (V := V) (x := z) (show r < 5 by omega) (show c < 8 by omega) (mT (by decide) hM) h8
      by_cases h3 : V 1 (8 * r + c) = nI 3
      · rw [if_pos h3, ← mptc (okV_R hV (by omega)).1 h8 (cm_iff.mpr ⟨by omega, h3⟩)]
        simp (discharger := omega) only [↓w289_0, ↓w289_1, ↓w289_2, ↓w289_5, ↓w289_6, ↓w289_7, ↓w289_10, ↓w289_13, ↓w289_14, ↓w289_15, ↓w289_18, ↓w289_21, ↓w289_22, ↓w289_23, ↓w289_24, ↓w289_27, ↓w289_28, ↓w289_31, ↓w289_32, ↓w289_33, ↓w289_34, ↓w289_35, ↓w289_36, ↓w289_37, ↓w289_38, ↓w289_39, ↓w289_40, ↓w289_43, ↓w289_46, ↓m_isReplica (mN' hN), ↓m_isCommand (mM' hM), ↓m_statusAt, ↓hws, ↓hpo, hx, hy, bI_t, ↓kc_i, ↓kc_l, ↓kc_r, ↓kc_n, rc420, g420_0, p420_0, g420_1, p420_1, g420_2, g420_3, p420_3, g420_4, p420_4, g420_5, p420_5, g420_6, p420_6, g420_7, p420_7, g420_8, p420_8, g420_9, p420_9, g420_10, g420_11, g420_12, g420_13, g420_14, g420_15, g420_16, g420_17, g420_18, g420_19, p420_19, g420_20, g420_21, g420_22, g420_23, g420_24, g420_25, g420_26, g420_27, g420_28, g420_29, g420_30, g420_31, g420_32, p420_32, g420_33, g420_34, g420_35, g420_36, g420_37, g420_38, g420_39, g420_40, g420_41, g420_42, g420_43, g420_44, g420_45, g420_46, g420_47, p420_47, g420_48, g420_49, p420_49, pm_eq, pm_ne, st_pm, st_pmne, rd1, rd2, rd3, rd4, rd5, rd6, rd2s, rd3s, rd4s, rd5s, rd7, rd8, rd9, rd10, rd11, rd0, rdc, wr1, wr2, wr3, wr4, wr5, wr6, wr2s, wr3s, wr4s, wr5s, wr7, wr8, wr9, wr10, wr11, wr0, wrc, st_ne, st_eq, st_st, h3, mul8, mul8', mul4, mul4', nI_add, inT, nclN, ltT, ltF, leT, leF, eqT, eqF, nzF, m1F, m1T, shr, shg, bI0, bI1, bo_bI, bo_1, bo_0, eq10, eq00, frT1, frT2, frT3, fit0, fit1, fit2, fit3, true_and, and_true, ↓reduceIte, Nat.reduceAdd, Nat.reduceMul, and_self, not_false_eq_true, not_true_eq_false, Nat.zero_add, Nat.add_zero]
      · rw [if_neg h3]
        simp (discharger := omega) only [↓w289_0, ↓w289_1, ↓w289_2, ↓w289_5, ↓w289_6, ↓w289_7, ↓w289_10, ↓w289_13, ↓w289_14, ↓w289_15, ↓w289_18, ↓w289_21, ↓w289_22, ↓w289_23, ↓w289_24, ↓w289_27, ↓w289_28, ↓w289_31, ↓w289_32, ↓w289_33, ↓w289_34, ↓w289_35, ↓w289_36, ↓w289_37, ↓w289_38, ↓w289_39, ↓w289_40, ↓w289_43, ↓w289_46, ↓m_isReplica (mN' hN), ↓m_isCommand (mM' hM), ↓m_statusAt, hx, hy, bI_t, ↓kc_i, ↓kc_l, ↓kc_r, ↓kc_n, rc420, g420_0, p420_0, g420_1, p420_1, g420_2, g420_3, p420_3, g420_4, p420_4, g420_5, p420_5, g420_6, p420_6, g420_7, p420_7, g420_8, p420_8, g420_9, p420_9, g420_10, g420_11, g420_12, g420_13, g420_14, g420_15, g420_16, g420_17, g420_18, g420_19, p420_19, g420_20, g420_21, g420_22, g420_23, g420_24, g420_25, g420_26, g420_27, g420_28, g420_29, g420_30, g420_31, g420_32, p420_32, g420_33, g420_34, g420_35, g420_36, g420_37, g420_38, g420_39, g420_40, g420_41, g420_42, g420_43, g420_44, g420_45, g420_46, g420_47, p420_47, g420_48, g420_49, p420_49, pm_eq, pm_ne, st_pm, st_pmne, rd1, rd2, rd3, rd4, rd5, rd6, rd2s, rd3s, rd4s, rd5s, rd7, rd8, rd9, rd10, rd11, rd0, rdc, wr1, wr2, wr3, wr4, wr5, wr6, wr2s, wr3s, wr4s, wr5s, wr7, wr8, wr9, wr10, wr11, wr0, wrc, st_ne, st_eq, st_st, h3, mul8, mul8', mul4, mul4', nI_add, inT, nclN, ltT, ltF, leT, leF, eqT, eqF, nzF, m1F, m1T, shr, shg, bI0, bI1, bo_bI, bo_1, bo_0, eq10, eq00, frT1, frT2, frT3, fit0, fit1, fit2, fit3, true_and, and_true, ↓reduceIte, Nat.reduceAdd, Nat.reduceMul, and_self, not_false_eq_true, not_true_eq_false, Nat.zero_add, Nat.add_zero]
    · have hy' := Bool.eq_false_iff.mpr hy
      rw [if_neg (fun q => hy q.2)]
      simp (discharger := omega) only [↓w289_0, ↓w289_1, ↓w289_2, ↓w289_5, ↓w289_6, ↓w289_7, ↓w289_10, ↓w289_13, ↓w289_14, ↓w289_15, ↓w289_18, ↓w289_21, ↓w289_22, ↓w289_23, ↓w289_24, ↓w289_27, ↓w289_28, ↓w289_31, ↓w289_32, ↓w289_33, ↓w289_34, ↓w289_35, ↓w289_36, ↓w289_37, ↓w289_38, ↓w289_39, ↓w289_40, ↓w289_43, ↓w289_46, ↓m_isReplica (mN' hN), ↓m_isCommand (mM' hM), hx, hy', bI_t, bI_f, ↓kc_i, ↓kc_l, ↓kc_r, ↓kc_n, rc420, g420_0, p420_0, g420_1, p420_1, g420_2, g420_3, p420_3, g420_4, p420_4, g420_5, p420_5, g420_6, p420_6, g420_7, p420_7, g420_8, p420_8, g420_9, p420_9, g420_10, g420_11, g420_12, g420_13, g420_14, g420_15, g420_16, g420_17, g420_18, g420_19, p420_19, g420_20, g420_21, g420_22, g420_23, g420_24, g420_25, g420_26, g420_27, g420_28, g420_29, g420_30, g420_31, g420_32, p420_32, g420_33, g420_34, g420_35, g420_36, g420_37, g420_38, g420_39, g420_40, g420_41, g420_42, g420_43, g420_44, g420_45, g420_46, g420_47, p420_47, g420_48, g420_49, p420_49, pm_eq, pm_ne, st_pm, st_pmne, rd1, rd2, rd3, rd4, rd5, rd6, rd2s, rd3s, rd4s, rd5s, rd7, rd8, rd9, rd10, rd11, rd0, rdc, wr1, wr2, wr3, wr4, wr5, wr6, wr2s, wr3s, wr4s, wr5s, wr7, wr8, wr9, wr10, wr11, wr0, wrc, st_ne, st_eq, st_st, mul8, mul8', mul4, mul4', nI_add, inT, nclN, ltT, ltF, leT, leF, eqT, eqF, nzF, m1F, m1T, shr, shg, bI0, bI1, bo_bI, bo_1, bo_0, eq10, eq00, frT1, frT2, frT3, fit0, fit1, fit2, fit3, true_and, and_true, ↓reduceIte, Nat.reduceAdd, Nat.reduceMul, and_self, not_false_eq_true, not_true_eq_false, Nat.zero_add, Nat.add_zero]
  · have hx' := Bool.eq_false_iff.mpr hx
    rw [if_neg (fun q => hx q.1)]
    simp (discharger := omega) only [↓w289_0, ↓w289_1, ↓w289_2, ↓w289_5, ↓w289_6, ↓w289_7, ↓w289_10, ↓w289_13, ↓w289_14, ↓w289_15, ↓w289_18, ↓w289_21, ↓w289_22, ↓w289_23, ↓w289_24, ↓w289_27, ↓w289_28, ↓w289_31, ↓w289_32, ↓w289_33, ↓w289_34, ↓w289_35, ↓w289_36, ↓w289_37, ↓w289_38, ↓w289_39, ↓w289_40, ↓w289_43, ↓w289_46, ↓m_isReplica (mN' hN), hx', bI_f, ↓kc_i, ↓kc_l, ↓kc_r, ↓kc_n, rc420, g420_0, p420_0, g420_1, p420_1, g420_2, g420_3, p420_3, g420_4, p420_4, g420_5, p420_5, g420_6, p420_6, g420_7, p420_7, g420_8, p420_8, g420_9, p420_9, g420_10, g420_11, g420_12, g420_13, g420_14, g420_15, g420_16, g420_17, g420_18, g420_19, p420_19, g420_20, g420_21, g420_22, g420_23, g420_24, g420_25, g420_26, g420_27, g420_28, g420_29, g420_30, g420_31, g420_32, p420_32, g420_33, g420_34, g420_35, g420_36, g420_37, g420_38, g420_39, g420_40, g420_41, g420_42, g420_43, g420_44, g420_45, g420_46, g420_47, p420_47, g420_48, g420_49, p420_49, pm_eq, pm_ne, st_pm, st_pmne, rd1, rd2, rd3, rd4, rd5, rd6, rd2s, rd3s, rd4s, rd5s, rd7, rd8, rd9, rd10, rd11, rd0, rdc, wr1, wr2, wr3, wr4, wr5, wr6, wr2s, wr3s, wr4s, wr5s, wr7, wr8, wr9, wr10, wr11, wr0, wrc, st_ne, st_eq, st_st, mul8, mul8', mul4, mul4', nI_add, inT, nclN, ltT, ltF, leT, leF, eqT, eqF, nzF, m1F, m1T, shr, shg, bI0, bI1, bo_bI, bo_1, bo_0, eq10, eq00, frT1, frT2, frT3, fit0, fit1, fit2, fit3, true_and, and_true, ↓reduceIte, Nat.reduceAdd, Nat.reduceMul, and_self, not_false_eq_true, not_true_eq_false, Nat.zero_add, Nat.add_zero]
end F0
