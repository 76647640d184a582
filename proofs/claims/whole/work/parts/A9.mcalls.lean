section E9
variable {L : Nat} {xs : Nat → Int32} {d : Nat} {P : Option Value → Hp → Prop} {I : Mi} {J : Mj} {R : Mr} {Z : Mz} {r c k l N M o n m B a b t w nx mn s : Nat} {x y z : Int32} {V V' V0 : Vw} {f f1 f4 g : Nat → Int32} {G : Gv} {U : Uq}
def mPo (I I' : Mi) (mn : Nat) (U : Uq) (V0 : Vw) (b : Bool) : Prop := (∀ a, a ≠ 420 → a ≠ 455 → I' a = I a) ∧ (∀ k, k ≠ 47 → k ≠ 0 → I' 420 k = I 420 k) ∧ I' 420 0 = nI 0 ∧ (if b = true then HiM I' (mG I) (min (mn + 1) 16) (Upu U mn V0) else HiM I' (mG I) mn U)
theorem HiM_T (hH : HiM I G mn U) : HiM (st I 420 (upd (I 420) 0 (nI 0))) G mn U := ⟨by rw [st_eq, upd_ne (by decide)]; exact hH.1, by rw [st_ne (by decide)]; exact hH.2⟩
theorem mPo_no (hH : HiM I (mG I) mn U) : mPo I (st I 420 (upd (I 420) 0 (nI 0))) mn U V0 false := ⟨fun a h1 _ => st_ne h1, fun k _ hk => by rw [st_eq, upd_ne hk], by rw [st_eq, upd_eq], by simp only [Bool.false_eq_true, ↓reduceIte]; exact HiM_T hH⟩
theorem mPo_yes {I2 : Mi} (hk : kpI (st I 420 (upd (I 420) 0 (nI 0))) I2) (hH : HiM I2 (mG I) (min (mn + 1) 16) (Upu U mn V0)) : mPo I I2 mn U V0 true := ⟨fun a h1 h2 => by rw [hk.1 a h1 h2, st_ne h1], fun k h1 h2 => by rw [hk.2 k h1, st_eq, upd_ne h2], by rw [hk.2 0 (by decide), st_eq, upd_eq], by simp only [↓reduceIte]; exact hH⟩
theorem m_propose (hG : okM I) (hV : okV B (mG I) V) (hBl : B + 1 < 2147483648) (hs : smV (mG I) V0 V) (hH : HiM I (mG I) mn U) (h16 : mn ≤ 16) : ∃ I', mPo I I' mn U V0 (isR (gM (mG I)) x && cnd (mG I) V 0 (x.toNatClampNeg) (0)) ∧ ∀ P, Wp L xs (d+7) 266 0 [some (.ref (420)), some (.int (x))] [] (mk (pm I V) J R Z) P = P (some (.int (if isR (gM (mG I)) x = true then (stp (mG I) V 0 (x.toNatClampNeg) (0)).1 else -1))) (mk (pm I' (if isR (gM (mG I)) x = true then (stp (mG I) V 0 (x.toNatClampNeg) (0)).2 else V)) J R Z) := by
  have hN : I 422 0 = nI (gN (mG I)) := hG.1.1.1
  have hN5 := hG.1.1.2
  have hM : I 422 2 = nI (gM (mG I)) := hG.1.2.1.1
  have h8 := hG.1.2.1.2
  obtain ⟨I2, hk1, hk2, hk⟩ := m_keeps (L := L) (xs := xs) (d := d + 5) (J := J) (R := R) (Z := Z) hs (HiM_T hH) h16
  have e2 : ∀ a, a ≠ 420 → a ≠ 455 → I2 a = I a := fun a h1 h2 => by rw [hk1.1 a h1 h2, st_ne h1]
  have hN2 : I2 422 0 = nI (gN (mG I)) := by rw [e2 _ (by decide) (by decide)]; exact hN
  have hM2 : I2 422 2 = nI (gM (mG I)) := by rw [e2 _ (by decide) (by decide)]; exact hM
  have e457 : I2 457 = I 457 := e2 _ (by decide) (by decide)
  by_cases hx : isR (gM (mG I)) x = true
  · obtain ⟨c, hc, rfl⟩ := isR_t hx (by omega)
    rw [hx, nI_clamp (by omega), Bool.true_and]
    have hc8 : c < 8 := by omega
    have hl : I 427 c = nI (gL (mG I) c) := (hG.1.2.2.1 c hc).1
    have hl5 : gL (mG I) c < 5 := by have := (hG.1.2.2.1 c hc).2; omega
    have hh : V 9 c = nI (hst V c) := (hV.2.2.2.2.2.2.2.2.1.2 c hc).1
    have hh5 : hst V c < 5 := by have : hst V c < gN (mG I) := (hV.2.2.2.2.2.2.2.2.1.2 c hc).2; omega
    have hT := hV.2.1.2.2.1
    have hl2 : I2 427 c = nI (gL (mG I) c) := by rw [e2 _ (by decide) (by decide)]; exact hl
    have hme := mmet_eq (cl := I 457) (c := c) (cn0 := V 0 1) (f1 := V 1) h8 (show gL (mG I) c < 5 by omega) hT (hG.2.1 c hc)
    have hbd := bhd_cut (f3 := V 3) (r := gL (mG I) c) (x := met (V 1) (I 457 c) (V 0 1) (gL (mG I) c)) h8 (met_M (f := V 1) (r := gL (mG I) c) (cn0 := V 0 1) hG.2 hc)
    have h1 := fun P => m_canPropose (L := L) (xs := xs) (I := (st I 420 (upd (I 420) 0 (nI 0)))) (J := J) (R := R) (Z := Z) (P := P) (V := V) (d := d + 4) hc8 (mT (by decide) hl) hl5
    by_cases hcond : (tb (V 0 0) (gL (mG I) c) && unt (V 1) (V 2) (8 * gL (mG I) c + c)) = true
    · have hcn1 : cnd (mG I) V 0 c 0 = true := hcond
      rw [hcn1]
      refine ⟨I2, mPo_yes hk1 hk2, fun P => ?_⟩
      show _ = P (some (.int (stP (mG I) V c).1)) (mk (pm I2 (stP (mG I) V c).2) J R Z)
      unfold stP
      simp only [hcond, ↓reduceIte]
      have h2 := fun P => m_proposes (L := L) (xs := xs) (I := I2) (J := J) (R := R) (Z := Z) (P := P) (V := V) (d := d + 3) hc8 hM2 h8 hl2 hl5
      simp only [e457, hme, hbd] at h2
      simp (discharger := omega) only [↓w266_0, ↓w266_1, ↓w266_2, ↓w266_5, ↓w266_6, ↓w266_7, ↓w266_10, ↓w266_13, ↓w266_14, ↓w266_15, ↓w266_18, ↓w266_21, ↓w266_22, ↓w266_23, ↓w266_24, ↓w266_27, ↓w266_28, ↓w266_29, ↓w266_32, ↓m_isCommand (mM' hM), ↓m_isReplica (mN' hN), hx, ↓h1, ↓hk, ↓h2, hcond, bI_t, ↓kc_i, ↓kc_l, ↓kc_r, ↓kc_n, rc420, g420_0, p420_0, g420_1, p420_1, g420_2, g420_3, p420_3, g420_4, p420_4, g420_5, p420_5, g420_6, p420_6, g420_7, p420_7, g420_8, p420_8, g420_9, p420_9, g420_10, g420_11, g420_12, g420_13, g420_14, g420_15, g420_16, g420_17, g420_18, g420_19, p420_19, g420_20, g420_21, g420_22, g420_23, g420_24, g420_25, g420_26, g420_27, g420_28, g420_29, g420_30, g420_31, g420_32, p420_32, g420_33, g420_34, g420_35, g420_36, g420_37, g420_38, g420_39, g420_40, g420_41, g420_42, g420_43, g420_44, g420_45, g420_46, g420_47, p420_47, g420_48, g420_49, p420_49, gi451, si451, pm_eq, pm_ne, st_pm, st_pmne, rd1, rd2, rd3, rd4, rd5, rd6, rd2s, rd3s, rd4s, rd5s, rd7, rd8, rd9, rd10, rd11, rd0, rdc, wr1, wr2, wr3, wr4, wr5, wr6, wr2s, wr3s, wr4s, wr5s, wr7, wr8, wr9, wr10, wr11, wr0, wrc, st_ne, st_eq, st_st, mul8, mul8', mul4, mul4', nI_add, inT, nclN, ltT, ltF, leT, leF, eqT, eqF, nzF, m1F, m1T, shr, shg, bI0, bI1, bo_bI, bo_1, bo_0, eq10, eq00, frT1, frT2, frT3, fit0, fit1, fit2, fit3, true_and, and_true, ↓reduceIte, Nat.reduceAdd, Nat.reduceMul, and_self, not_false_eq_true, not_true_eq_false, Nat.zero_add, Nat.add_zero, Bool.true_eq_false] <;> rfl
    · have hcf := Bool.eq_false_iff.mpr hcond
      have hcn1 : cnd (mG I) V 0 c 0 = false := hcf
      rw [hcn1]
      refine ⟨_, mPo_no hH, fun P => ?_⟩
      show _ = P (some (.int (stP (mG I) V c).1)) (mk (pm _ (stP (mG I) V c).2) J R Z)
      unfold stP
      simp only [hcf, ↓reduceIte, Bool.false_eq_true]
      simp (discharger := omega) only [↓w266_0, ↓w266_1, ↓w266_2, ↓w266_5, ↓w266_6, ↓w266_7, ↓w266_10, ↓w266_13, ↓w266_14, ↓w266_15, ↓w266_18, ↓w266_21, ↓w266_22, ↓w266_23, ↓w266_24, ↓w266_27, ↓w266_28, ↓w266_29, ↓w266_32, ↓m_isCommand (mM' hM), ↓m_isReplica (mN' hN), hx, ↓h1, hcf, bI_t, bI_f, ↓kc_i, ↓kc_l, ↓kc_r, ↓kc_n, rc420, g420_0, p420_0, g420_1, p420_1, g420_2, g420_3, p420_3, g420_4, p420_4, g420_5, p420_5, g420_6, p420_6, g420_7, p420_7, g420_8, p420_8, g420_9, p420_9, g420_10, g420_11, g420_12, g420_13, g420_14, g420_15, g420_16, g420_17, g420_18, g420_19, p420_19, g420_20, g420_21, g420_22, g420_23, g420_24, g420_25, g420_26, g420_27, g420_28, g420_29, g420_30, g420_31, g420_32, p420_32, g420_33, g420_34, g420_35, g420_36, g420_37, g420_38, g420_39, g420_40, g420_41, g420_42, g420_43, g420_44, g420_45, g420_46, g420_47, p420_47, g420_48, g420_49, p420_49, gi451, si451, pm_eq, pm_ne, st_pm, st_pmne, rd1, rd2, rd3, rd4, rd5, rd6, rd2s, rd3s, rd4s, rd5s, rd7, rd8, rd9, rd10, rd11, rd0, rdc, wr1, wr2, wr3, wr4, wr5, wr6, wr2s, wr3s, wr4s, wr5s, wr7, wr8, wr9, wr10, wr11, wr0, wrc, st_ne, st_eq, st_st, mul8, mul8', mul4, mul4', nI_add, inT, nclN, ltT, ltF, leT, leF, eqT, eqF, nzF, m1F, m1T, shr, shg, bI0, bI1, bo_bI, bo_1, bo_0, eq10, eq00, frT1, frT2, frT3, fit0, fit1, fit2, fit3, true_and, and_true, ↓reduceIte, Nat.reduceAdd, Nat.reduceMul, and_self, not_false_eq_true, not_true_eq_false, Nat.zero_add, Nat.add_zero, Bool.true_eq_false] <;> rfl
  · have hx' := Bool.eq_false_iff.mpr hx
    rw [hx', Bool.false_and]
    refine ⟨_, mPo_no hH, fun P => ?_⟩
    simp (discharger := omega) only [↓w266_0, ↓w266_1, ↓w266_2, ↓w266_5, ↓w266_6, ↓w266_7, ↓w266_10, ↓w266_13, ↓w266_14, ↓w266_15, ↓w266_18, ↓w266_21, ↓w266_22, ↓w266_23, ↓w266_24, ↓w266_27, ↓w266_28, ↓w266_29, ↓w266_32, ↓m_isCommand (mM' hM), ↓m_isReplica (mN' hN), hx', bI_f, ↓kc_i, ↓kc_l, ↓kc_r, ↓kc_n, rc420, g420_0, p420_0, g420_1, p420_1, g420_2, g420_3, p420_3, g420_4, p420_4, g420_5, p420_5, g420_6, p420_6, g420_7, p420_7, g420_8, p420_8, g420_9, p420_9, g420_10, g420_11, g420_12, g420_13, g420_14, g420_15, g420_16, g420_17, g420_18, g420_19, p420_19, g420_20, g420_21, g420_22, g420_23, g420_24, g420_25, g420_26, g420_27, g420_28, g420_29, g420_30, g420_31, g420_32, p420_32, g420_33, g420_34, g420_35, g420_36, g420_37, g420_38, g420_39, g420_40, g420_41, g420_42, g420_43, g420_44, g420_45, g420_46, g420_47, p420_47, g420_48, g420_49, p420_49, pm_eq, pm_ne, st_pm, st_pmne, rd1, rd2, rd3, rd4, rd5, rd6, rd2s, rd3s, rd4s, rd5s, rd7, rd8, rd9, rd10, rd11, rd0, rdc, wr1, wr2, wr3, wr4, wr5, wr6, wr2s, wr3s, wr4s, wr5s, wr7, wr8, wr9, wr10, wr11, wr0, wrc, st_ne, st_eq, st_st, mul8, mul8', mul4, mul4', nI_add, inT, nclN, ltT, ltF, leT, leF, eqT, eqF, nzF, m1F, m1T, shr, shg, bI0, bI1, bo_bI, bo_1, bo_0, eq10, eq00, frT1, frT2, frT3, fit0, fit1, fit2, fit3, true_and, and_true, ↓reduceIte, Nat.reduceAdd, Nat.reduceMul, and_self, not_false_eq_true, not_true_eq_false, Nat.zero_add, Nat.add_zero, Bool.false_eq_true]
theorem m_ask (hG : okM I) (hV : okV B (mG I) V) (hBl : B + 1 < 2147483648) (hs : smV (mG I) V0 V) (hH : HiM I (mG I) mn U) (h16 : mn ≤ 16) : ∃ I', mPo I I' mn U V0 ((isR (gM (mG I)) x && isR (gN (mG I)) y) && cnd (mG I) V 1 (x.toNatClampNeg) (y.toNatClampNeg)) ∧ ∀ P, Wp L xs (d+7) 267 0 [some (.ref (420)), some (.int (x)), some (.int (y))] [] (mk (pm I V) J R Z) P = P (some (.int (if (isR (gM (mG I)) x && isR (gN (mG I)) y) = true then (stp (mG I) V 1 (x.toNatClampNeg) (y.toNatClampNeg)).1 else -1))) (mk (pm I' (if (isR (gM (mG I)) x && isR (gN (mG I)) y) = true then (stp (mG I) V 1 (x.toNatClampNeg) (y.toNatClampNeg)).2 else V)) J R Z) := by
  have hN : I 422 0 = nI (gN (mG I)) := hG.1.1.1
  have hN5 := hG.1.1.2
  have hM : I 422 2 = nI (gM (mG I)) := hG.1.2.1.1
  have h8 := hG.1.2.1.2
  obtain ⟨I2, hk1, hk2, hk⟩ := m_keeps (L := L) (xs := xs) (d := d + 5) (J := J) (R := R) (Z := Z) hs (HiM_T hH) h16
  have e2 : ∀ a, a ≠ 420 → a ≠ 455 → I2 a = I a := fun a h1 h2 => by rw [hk1.1 a h1 h2, st_ne h1]
  have hN2 : I2 422 0 = nI (gN (mG I)) := by rw [e2 _ (by decide) (by decide)]; exact hN
  have hM2 : I2 422 2 = nI (gM (mG I)) := by rw [e2 _ (by decide) (by decide)]; exact hM
  have e457 : I2 457 = I 457 := e2 _ (by decide) (by decide)
  by_cases hx : isR (gM (mG I)) x = true
  · by_cases hy : isR (gN (mG I)) y = true
    · obtain ⟨c, hc, rfl⟩ := isR_t hx (by omega)
      obtain ⟨r, hr, rfl⟩ := isR_t hy (by omega)
      rw [hx, hy, nI_clamp (by omega), nI_clamp (by omega), Bool.true_and, Bool.true_and]
      have hc8 : c < 8 := by omega
      have hl : I 427 c = nI (gL (mG I) c) := (hG.1.2.2.1 c hc).1
      have hl5 : gL (mG I) c < 5 := by have := (hG.1.2.2.1 c hc).2; omega
      have hh : V 9 c = nI (hst V c) := (hV.2.2.2.2.2.2.2.2.1.2 c hc).1
      have hh5 : hst V c < 5 := by have : hst V c < gN (mG I) := (hV.2.2.2.2.2.2.2.2.1.2 c hc).2; omega
      have hT := hV.2.1.2.2.1
      have hl2 : I2 427 c = nI (gL (mG I) c) := by rw [e2 _ (by decide) (by decide)]; exact hl
      have hr5 : r < 5 := by omega
      have hme := mmet_eq (cl := I 457) (c := c) (cn0 := V 0 1) (f1 := V 1) h8 (show r < 5 by omega) hT (hG.2.1 c hc)
      have hbd := bhd_cut (f3 := V 3) (r := r) (x := met (V 1) (I 457 c) (V 0 1) (r)) h8 (met_M (f := V 1) (r := r) (cn0 := V 0 1) hG.2 hc)
      have h1 := fun P => m_canAsk (L := L) (xs := xs) (I := (st I 420 (upd (I 420) 0 (nI 0)))) (J := J) (R := R) (Z := Z) (P := P) (V := V) (d := d + 3) hc8 hr5 (mT (by decide) hl) hl5
      by_cases hcond : (askd (V 0 0) (V 1) (V 2) (gL (mG I) c) c && (decide (r ≠ gL (mG I) c) && (tb (V 0 0) r && unt (V 1) (V 2) (8 * r + c)))) = true
      · have hcn1 : cnd (mG I) V 1 c r = true := hcond
        rw [hcn1]
        refine ⟨I2, mPo_yes hk1 hk2, fun P => ?_⟩
        show _ = P (some (.int (stA (mG I) V c r).1)) (mk (pm I2 (stA (mG I) V c r).2) J R Z)
        unfold stA
        simp only [hcond, ↓reduceIte]
        have hrl : r ≠ gL (mG I) c := by simp only [Bool.and_eq_true, decide_eq_true_eq] at hcond; exact hcond.2.1
        have h2 := fun P => m_asks (L := L) (xs := xs) (I := I2) (J := J) (R := R) (Z := Z) (P := P) (V := V) (d := d + 3) hc8 hr5 hrl hM2 h8 hl2 hl5
        simp only [e457, hme, hbd] at h2
        simp (discharger := omega) only [↓w267_0, ↓w267_1, ↓w267_2, ↓w267_5, ↓w267_6, ↓w267_7, ↓w267_10, ↓w267_13, ↓w267_14, ↓w267_15, ↓w267_18, ↓w267_21, ↓w267_22, ↓w267_23, ↓w267_24, ↓w267_27, ↓w267_30, ↓w267_31, ↓w267_32, ↓w267_33, ↓w267_36, ↓w267_37, ↓w267_38, ↓w267_39, ↓w267_42, ↓m_isCommand (mM' hM), ↓m_isReplica (mN' hN), hx, hy, ↓h1, ↓hk, ↓h2, hcond, bI_t, ↓kc_i, ↓kc_l, ↓kc_r, ↓kc_n, rc420, g420_0, p420_0, g420_1, p420_1, g420_2, g420_3, p420_3, g420_4, p420_4, g420_5, p420_5, g420_6, p420_6, g420_7, p420_7, g420_8, p420_8, g420_9, p420_9, g420_10, g420_11, g420_12, g420_13, g420_14, g420_15, g420_16, g420_17, g420_18, g420_19, p420_19, g420_20, g420_21, g420_22, g420_23, g420_24, g420_25, g420_26, g420_27, g420_28, g420_29, g420_30, g420_31, g420_32, p420_32, g420_33, g420_34, g420_35, g420_36, g420_37, g420_38, g420_39, g420_40, g420_41, g420_42, g420_43, g420_44, g420_45, g420_46, g420_47, p420_47, g420_48, g420_49, p420_49, gi451, si451, pm_eq, pm_ne, st_pm, st_pmne, rd1, rd2, rd3, rd4, rd5, rd6, rd2s, rd3s, rd4s, rd5s, rd7, rd8, rd9, rd10, rd11, rd0, rdc, wr1, wr2, wr3, wr4, wr5, wr6, wr2s, wr3s, wr4s, wr5s, wr7, wr8, wr9, wr10, wr11, wr0, wrc, st_ne, st_eq, st_st, mul8, mul8', mul4, mul4', nI_add, inT, nclN, ltT, ltF, leT, leF, eqT, eqF, nzF, m1F, m1T, shr, shg, bI0, bI1, bo_bI, bo_1, bo_0, eq10, eq00, frT1, frT2, frT3, fit0, fit1, fit2, fit3, true_and, and_true, ↓reduceIte, Nat.reduceAdd, Nat.reduceMul, and_self, not_false_eq_true, not_true_eq_false, Nat.zero_add, Nat.add_zero, Bool.true_eq_false] <;> rfl
      · have hcf := Bool.eq_false_iff.mpr hcond
        have hcn1 : cnd (mG I) V 1 c r = false := hcf
        rw [hcn1]
        refine ⟨_, mPo_no hH, fun P => ?_⟩
        show _ = P (some (.int (stA (mG I) V c r).1)) (mk (pm _ (stA (mG I) V c r).2) J R Z)
        unfold stA
        simp only [hcf, ↓reduceIte, Bool.false_eq_true]
        simp (discharger := omega) only [↓w267_0, ↓w267_1, ↓w267_2, ↓w267_5, ↓w267_6, ↓w267_7, ↓w267_10, ↓w267_13, ↓w267_14, ↓w267_15, ↓w267_18, ↓w267_21, ↓w267_22, ↓w267_23, ↓w267_24, ↓w267_27, ↓w267_30, ↓w267_31, ↓w267_32, ↓w267_33, ↓w267_36, ↓w267_37, ↓w267_38, ↓w267_39, ↓w267_42, ↓m_isCommand (mM' hM), ↓m_isReplica (mN' hN), hx, hy, ↓h1, hcf, bI_t, bI_f, ↓kc_i, ↓kc_l, ↓kc_r, ↓kc_n, rc420, g420_0, p420_0, g420_1, p420_1, g420_2, g420_3, p420_3, g420_4, p420_4, g420_5, p420_5, g420_6, p420_6, g420_7, p420_7, g420_8, p420_8, g420_9, p420_9, g420_10, g420_11, g420_12, g420_13, g420_14, g420_15, g420_16, g420_17, g420_18, g420_19, p420_19, g420_20, g420_21, g420_22, g420_23, g420_24, g420_25, g420_26, g420_27, g420_28, g420_29, g420_30, g420_31, g420_32, p420_32, g420_33, g420_34, g420_35, g420_36, g420_37, g420_38, g420_39, g420_40, g420_41, g420_42, g420_43, g420_44, g420_45, g420_46, g420_47, p420_47, g420_48, g420_49, p420_49, gi451, si451, pm_eq, pm_ne, st_pm, st_pmne, rd1, rd2, rd3, rd4, rd5, rd6, rd2s, rd3s, rd4s, rd5s, rd7, rd8, rd9, rd10, rd11, rd0, rdc, wr1, wr2, wr3, wr4, wr5, wr6, wr2s, wr3s, wr4s, wr5s, wr7, wr8, wr9, wr10, wr11, wr0, wrc, st_ne, st_eq, st_st, mul8, mul8', mul4, mul4', nI_add, inT, nclN, ltT, ltF, leT, leF, eqT, eqF, nzF, m1F, m1T, shr, shg, bI0, bI1, bo_bI, bo_1, bo_0, eq10, eq00, frT1, frT2, frT3, fit0, fit1, fit2, fit3, true_and, and_true, ↓reduceIte, Nat.reduceAdd, Nat.reduceMul, and_self, not_false_eq_true, not_true_eq_false, Nat.zero_add, Nat.add_zero, Bool.true_eq_false] <;> rfl
    · have hy' := Bool.eq_false_iff.mpr hy
      rw [hx, hy', Bool.and_false, Bool.false_and]
      refine ⟨_, mPo_no hH, fun P => ?_⟩
      simp (discharger := omega) only [↓w267_0, ↓w267_1, ↓w267_2, ↓w267_5, ↓w267_6, ↓w267_7, ↓w267_10, ↓w267_13, ↓w267_14, ↓w267_15, ↓w267_18, ↓w267_21, ↓w267_22, ↓w267_23, ↓w267_24, ↓w267_27, ↓w267_30, ↓w267_31, ↓w267_32, ↓w267_33, ↓w267_36, ↓w267_37, ↓w267_38, ↓w267_39, ↓w267_42, ↓m_isCommand (mM' hM), ↓m_isReplica (mN' hN), hx, hy', bI_t, bI_f, ↓kc_i, ↓kc_l, ↓kc_r, ↓kc_n, rc420, g420_0, p420_0, g420_1, p420_1, g420_2, g420_3, p420_3, g420_4, p420_4, g420_5, p420_5, g420_6, p420_6, g420_7, p420_7, g420_8, p420_8, g420_9, p420_9, g420_10, g420_11, g420_12, g420_13, g420_14, g420_15, g420_16, g420_17, g420_18, g420_19, p420_19, g420_20, g420_21, g420_22, g420_23, g420_24, g420_25, g420_26, g420_27, g420_28, g420_29, g420_30, g420_31, g420_32, p420_32, g420_33, g420_34, g420_35, g420_36, g420_37, g420_38, g420_39, g420_40, g420_41, g420_42, g420_43, g420_44, g420_45, g420_46, g420_47, p420_47, g420_48, g420_49, p420_49, pm_eq, pm_ne, st_pm, st_pmne, rd1, rd2, rd3, rd4, rd5, rd6, rd2s, rd3s, rd4s, rd5s, rd7, rd8, rd9, rd10, rd11, rd0, rdc, wr1, wr2, wr3, wr4, wr5, wr6, wr2s, wr3s, wr4s, wr5s, wr7, wr8, wr9, wr10, wr11, wr0, wrc, st_ne, st_eq, st_st, mul8, mul8', mul4, mul4', nI_add, inT, nclN, ltT, ltF, leT, leF, eqT, eqF, nzF, m1F, m1T, shr, shg, bI0, bI1, bo_bI, bo_1, bo_0, eq10, eq00, frT1, frT2, frT3, fit0, fit1, fit2, fit3, true_and, and_true, ↓reduceIte, Nat.reduceAdd, Nat.reduceMul, and_self, not_false_eq_true, not_true_eq_false, Nat.zero_add, Nat.add_zero, Bool.false_eq_true]
  · have hx' := Bool.eq_false_iff.mpr hx
    rw [hx', Bool.false_and, Bool.false_and]
    refine ⟨_, mPo_no hH, fun P => ?_⟩
    simp (discharger := omega) only [↓w267_0, ↓w267_1, ↓w267_2, ↓w267_5, ↓w267_6, ↓w267_7, ↓w267_10, ↓w267_13, ↓w267_14, ↓w267_15, ↓w267_18, ↓w267_21, ↓w267_22, ↓w267_23, ↓w267_24, ↓w267_27, ↓w267_30, ↓w267_31, ↓w267_32, ↓w267_33, ↓w267_36, ↓w267_37, ↓w267_38, ↓w267_39, ↓w267_42, ↓m_isCommand (mM' hM), ↓m_isReplica (mN' hN), hx', bI_f, ↓kc_i, ↓kc_l, ↓kc_r, ↓kc_n, rc420, g420_0, p420_0, g420_1, p420_1, g420_2, g420_3, p420_3, g420_4, p420_4, g420_5, p420_5, g420_6, p420_6, g420_7, p420_7, g420_8, p420_8, g420_9, p420_9, g420_10, g420_11, g420_12, g420_13, g420_14, g420_15, g420_16, g420_17, g420_18, g420_19, p420_19, g420_20, g420_21, g420_22, g420_23, g420_24, g420_25, g420_26, g420_27, g420_28, g420_29, g420_30, g420_31, g420_32, p420_32, g420_33, g420_34, g420_35, g420_36, g420_37, g420_38, g420_39, g420_40, g420_41, g420_42, g420_43, g420_44, g420_45, g420_46, g420_47, p420_47, g420_48, g420_49, p420_49, pm_eq, pm_ne, st_pm, st_pmne, rd1, rd2, rd3, rd4, rd5, rd6, rd2s, rd3s, rd4s, rd5s, rd7, rd8, rd9, rd10, rd11, rd0, rdc, wr1, wr2, wr3, wr4, wr5, wr6, wr2s, wr3s, wr4s, wr5s, wr7, wr8, wr9, wr10, wr11, wr0, wrc, st_ne, st_eq, st_st, mul8, mul8', mul4, mul4', nI_add, inT, nclN, ltT, ltF, leT, leF, eqT, eqF, nzF, m1F, m1T, shr, shg, bI0, bI1, bo_bI, bo_1, bo_0, eq10, eq00, frT1, frT2, frT3, fit0, fit1, fit2, fit3, true_and, and_true, ↓reduceIte, Nat.reduceAdd, Nat.reduceMul, and_self, not_false_eq_true, not_true_eq_false, Nat.zero_add, Nat.add_zero, Bool.false_eq_true]
theorem m_decide (hG : okM I) (hV : okV B (mG I) V) (hBl : B + 1 < 2147483648) (hs : smV (mG I) V0 V) (hH : HiM I (mG I) mn U) (h16 : mn ≤ 16) : ∃ I', mPo I I' mn U V0 (isR (gM (mG I)) x && cnd (mG I) V 2 (x.toNatClampNeg) (0)) ∧ ∀ P, Wp L xs (d+7) 268 0 [some (.ref (420)), some (.int (x))] [] (mk (pm I V) J R Z) P = P (some (.int (if isR (gM (mG I)) x = true then (stp (mG I) V 2 (x.toNatClampNeg) (0)).1 else -1))) (mk (pm I' (if isR (gM (mG I)) x = true then (stp (mG I) V 2 (x.toNatClampNeg) (0)).2 else V)) J R Z) := by
  have hN : I 422 0 = nI (gN (mG I)) := hG.1.1.1
  have hN5 := hG.1.1.2
  have hM : I 422 2 = nI (gM (mG I)) := hG.1.2.1.1
  have h8 := hG.1.2.1.2
  obtain ⟨I2, hk1, hk2, hk⟩ := m_keeps (L := L) (xs := xs) (d := d + 5) (J := J) (R := R) (Z := Z) hs (HiM_T hH) h16
  have e2 : ∀ a, a ≠ 420 → a ≠ 455 → I2 a = I a := fun a h1 h2 => by rw [hk1.1 a h1 h2, st_ne h1]
  have hN2 : I2 422 0 = nI (gN (mG I)) := by rw [e2 _ (by decide) (by decide)]; exact hN
  have hM2 : I2 422 2 = nI (gM (mG I)) := by rw [e2 _ (by decide) (by decide)]; exact hM
  have e457 : I2 457 = I 457 := e2 _ (by decide) (by decide)
  by_cases hx : isR (gM (mG I)) x = true
  · obtain ⟨c, hc, rfl⟩ := isR_t hx (by omega)
    rw [hx, nI_clamp (by omega), Bool.true_and]
    have hc8 : c < 8 := by omega
    have hl : I 427 c = nI (gL (mG I) c) := (hG.1.2.2.1 c hc).1
    have hl5 : gL (mG I) c < 5 := by have := (hG.1.2.2.1 c hc).2; omega
    have hh : V 9 c = nI (hst V c) := (hV.2.2.2.2.2.2.2.2.1.2 c hc).1
    have hh5 : hst V c < 5 := by have : hst V c < gN (mG I) := (hV.2.2.2.2.2.2.2.2.1.2 c hc).2; omega
    have hT := hV.2.1.2.2.1
    have hl2 : I2 427 c = nI (gL (mG I) c) := by rw [e2 _ (by decide) (by decide)]; exact hl
    have h1 := fun P => m_canDecide (L := L) (xs := xs) (I := (st I 420 (upd (I 420) 0 (nI 0)))) (J := J) (R := R) (Z := Z) (P := P) (V := V) (d := d + 3) hc8 (mT (by decide) hN) hN5 (mT (by decide) hl) hl5
    by_cases hcond : (askd (V 0 0) (V 1) (V 2) (gL (mG I) c) c && decide (mst (gN (mG I)) ≤ pcn (V 10 c))) = true
    · have hcn1 : cnd (mG I) V 2 c 0 = true := hcond
      rw [hcn1]
      refine ⟨I2, mPo_yes hk1 hk2, fun P => ?_⟩
      show _ = P (some (.int (stD (mG I) V c).1)) (mk (pm I2 (stD (mG I) V c).2) J R Z)
      unfold stD
      simp only [hcond, ↓reduceIte]
      have h2 := fun P => m_decides (L := L) (xs := xs) (I := I2) (J := J) (R := R) (Z := Z) (P := P) (V := V) (d := d + 3) hc8 hN2 hN5 hl2 hl5
      by_cases hat : atOnce (gN (mG I)) (V 3) (V 4) (V 10 c) (gL (mG I) c) c = true
      · simp (discharger := omega) only [↓w268_0, ↓w268_1, ↓w268_2, ↓w268_5, ↓w268_6, ↓w268_7, ↓w268_10, ↓w268_13, ↓w268_14, ↓w268_15, ↓w268_18, ↓w268_21, ↓w268_22, ↓w268_23, ↓w268_24, ↓w268_27, ↓w268_28, ↓w268_29, ↓w268_32, ↓m_isCommand (mM' hM), ↓m_isReplica (mN' hN), hx, ↓h1, ↓hk, ↓h2, hcond, hat, bI_t, ↓kc_i, ↓kc_l, ↓kc_r, ↓kc_n, rc420, g420_0, p420_0, g420_1, p420_1, g420_2, g420_3, p420_3, g420_4, p420_4, g420_5, p420_5, g420_6, p420_6, g420_7, p420_7, g420_8, p420_8, g420_9, p420_9, g420_10, g420_11, g420_12, g420_13, g420_14, g420_15, g420_16, g420_17, g420_18, g420_19, p420_19, g420_20, g420_21, g420_22, g420_23, g420_24, g420_25, g420_26, g420_27, g420_28, g420_29, g420_30, g420_31, g420_32, p420_32, g420_33, g420_34, g420_35, g420_36, g420_37, g420_38, g420_39, g420_40, g420_41, g420_42, g420_43, g420_44, g420_45, g420_46, g420_47, p420_47, g420_48, g420_49, p420_49, gi451, si451, pm_eq, pm_ne, st_pm, st_pmne, rd1, rd2, rd3, rd4, rd5, rd6, rd2s, rd3s, rd4s, rd5s, rd7, rd8, rd9, rd10, rd11, rd0, rdc, wr1, wr2, wr3, wr4, wr5, wr6, wr2s, wr3s, wr4s, wr5s, wr7, wr8, wr9, wr10, wr11, wr0, wrc, st_ne, st_eq, st_st, mul8, mul8', mul4, mul4', nI_add, inT, nclN, ltT, ltF, leT, leF, eqT, eqF, nzF, m1F, m1T, shr, shg, bI0, bI1, bo_bI, bo_1, bo_0, eq10, eq00, frT1, frT2, frT3, fit0, fit1, fit2, fit3, true_and, and_true, ↓reduceIte, Nat.reduceAdd, Nat.reduceMul, and_self, not_false_eq_true, not_true_eq_false, Nat.zero_add, Nat.add_zero, Bool.true_eq_false, Bool.false_eq_true] <;> rfl
      · simp (discharger := omega) only [↓w268_0, ↓w268_1, ↓w268_2, ↓w268_5, ↓w268_6, ↓w268_7, ↓w268_10, ↓w268_13, ↓w268_14, ↓w268_15, ↓w268_18, ↓w268_21, ↓w268_22, ↓w268_23, ↓w268_24, ↓w268_27, ↓w268_28, ↓w268_29, ↓w268_32, ↓m_isCommand (mM' hM), ↓m_isReplica (mN' hN), hx, ↓h1, ↓hk, ↓h2, hcond, hat, bI_t, ↓kc_i, ↓kc_l, ↓kc_r, ↓kc_n, rc420, g420_0, p420_0, g420_1, p420_1, g420_2, g420_3, p420_3, g420_4, p420_4, g420_5, p420_5, g420_6, p420_6, g420_7, p420_7, g420_8, p420_8, g420_9, p420_9, g420_10, g420_11, g420_12, g420_13, g420_14, g420_15, g420_16, g420_17, g420_18, g420_19, p420_19, g420_20, g420_21, g420_22, g420_23, g420_24, g420_25, g420_26, g420_27, g420_28, g420_29, g420_30, g420_31, g420_32, p420_32, g420_33, g420_34, g420_35, g420_36, g420_37, g420_38, g420_39, g420_40, g420_41, g420_42, g420_43, g420_44, g420_45, g420_46, g420_47, p420_47, g420_48, g420_49, p420_49, gi451, si451, pm_eq, pm_ne, st_pm, st_pmne, rd1, rd2, rd3, rd4, rd5, rd6, rd2s, rd3s, rd4s, rd5s, rd7, rd8, rd9, rd10, rd11, rd0, rdc, wr1, wr2, wr3, wr4, wr5, wr6, wr2s, wr3s, wr4s, wr5s, wr7, wr8, wr9, wr10, wr11, wr0, wrc, st_ne, st_eq, st_st, mul8, mul8', mul4, mul4', nI_add, inT, nclN, ltT, ltF, leT, leF, eqT, eqF, nzF, m1F, m1T, shr, shg, bI0, bI1, bo_bI, bo_1, bo_0, eq10, eq00, frT1, frT2, frT3, fit0, fit1, fit2, fit3, true_and, and_true, ↓reduceIte, Nat.reduceAdd, Nat.reduceMul, and_self, not_false_eq_true, not_true_eq_false, Nat.zero_add, Nat.add_zero, Bool.true_eq_false, Bool.false_eq_true] <;> rfl
    · have hcf := Bool.eq_false_iff.mpr hcond
      have hcn1 : cnd (mG I) V 2 c 0 = false := hcf
      rw [hcn1]
      refine ⟨_, mPo_no hH, fun P => ?_⟩
      show _ = P (some (.int (stD (mG I) V c).1)) (mk (pm _ (stD (mG I) V c).2) J R Z)
      unfold stD
      simp only [hcf, ↓reduceIte, Bool.false_eq_true]
      simp (discharger := omega) only [↓w268_0, ↓w268_1, ↓w268_2, ↓w268_5, ↓w268_6, ↓w268_7, ↓w268_10, ↓w268_13, ↓w268_14, ↓w268_15, ↓w268_18, ↓w268_21, ↓w268_22, ↓w268_23, ↓w268_24, ↓w268_27, ↓w268_28, ↓w268_29, ↓w268_32, ↓m_isCommand (mM' hM), ↓m_isReplica (mN' hN), hx, ↓h1, hcf, bI_t, bI_f, ↓kc_i, ↓kc_l, ↓kc_r, ↓kc_n, rc420, g420_0, p420_0, g420_1, p420_1, g420_2, g420_3, p420_3, g420_4, p420_4, g420_5, p420_5, g420_6, p420_6, g420_7, p420_7, g420_8, p420_8, g420_9, p420_9, g420_10, g420_11, g420_12, g420_13, g420_14, g420_15, g420_16, g420_17, g420_18, g420_19, p420_19, g420_20, g420_21, g420_22, g420_23, g420_24, g420_25, g420_26, g420_27, g420_28, g420_29, g420_30, g420_31, g420_32, p420_32, g420_33, g420_34, g420_35, g420_36, g420_37, g420_38, g420_39, g420_40, g420_41, g420_42, g420_43, g420_44, g420_45, g420_46, g420_47, p420_47, g420_48, g420_49, p420_49, gi451, si451, pm_eq, pm_ne, st_pm, st_pmne, rd1, rd2, rd3, rd4, rd5, rd6, rd2s, rd3s, rd4s, rd5s, rd7, rd8, rd9, rd10, rd11, rd0, rdc, wr1, wr2, wr3, wr4, wr5, wr6, wr2s, wr3s, wr4s, wr5s, wr7, wr8, wr9, wr10, wr11, wr0, wrc, st_ne, st_eq, st_st, mul8, mul8', mul4, mul4', nI_add, inT, nclN, ltT, ltF, leT, leF, eqT, eqF, nzF, m1F, m1T, shr, shg, bI0, bI1, bo_bI, bo_1, bo_0, eq10, eq00, frT1, frT2, frT3, fit0, fit1, fit2, fit3, true_and, and_true, ↓reduceIte, Nat.reduceAdd, Nat.reduceMul, and_self, not_false_eq_true, not_true_eq_false, Nat.zero_add, Nat.add_zero, Bool.true_eq_false] <;> rfl
  · have hx' := Bool.eq_false_iff.mpr hx
    rw [hx', Bool.false_and]
    refine ⟨_, mPo_no hH, fun P => ?_⟩
    simp (discharger := omega) only [↓w268_0, ↓w268_1, ↓w268_2, ↓w268_5, ↓w268_6, ↓w268_7, ↓w268_10, ↓w268_13, ↓w268_14, ↓w268_15, ↓w268_18, ↓w268_21, ↓w268_22, ↓w268_23, ↓w268_24, ↓w268_27, ↓w268_28, ↓w268_29, ↓w268_32, ↓m_isCommand (mM' hM), ↓m_isReplica (mN' hN), hx', bI_f, ↓kc_i, ↓kc_l, ↓kc_r, ↓kc_n, rc420, g420_0, p420_0, g420_1, p420_1, g420_2, g420_3, p420_3, g420_4, p420_4, g420_5, p420_5, g420_6, p420_6, g420_7, p420_7, g420_8, p420_8, g420_9, p420_9, g420_10, g420_11, g420_12, g420_13, g420_14, g420_15, g420_16, g420_17, g420_18, g420_19, p420_19, g420_20, g420_21, g420_22, g420_23, g420_24, g420_25, g420_26, g420_27, g420_28, g420_29, g420_30, g420_31, g420_32, p420_32, g420_33, g420_34, g420_35, g420_36, g420_37, g420_38, g420_39, g420_40, g420_41, g420_42, g420_43, g420_44, g420_45, g420_46, g420_47, p420_47, g420_48, g420_49, p420_49, pm_eq, pm_ne, st_pm, st_pmne, rd1, rd2, rd3, rd4, rd5, rd6, rd2s, rd3s, rd4s, rd5s, rd7, rd8, rd9, rd10, rd11, rd0, rdc, wr1, wr2, wr3, wr4, wr5, wr6, wr2s, wr3s, wr4s, wr5s, wr7, wr8, wr9, wr10, wr11, wr0, wrc, st_ne, st_eq, st_st, mul8, mul8', mul4, mul4', nI_add, inT, nclN, ltT, ltF, leT, leF, eqT, eqF, nzF, m1F, m1T, shr, shg, bI0, bI1, bo_bI, bo_1, bo_0, eq10, eq00, frT1, frT2, frT3, fit0, fit1, fit2, fit3, true_and, and_true, ↓reduceIte, Nat.reduceAdd, Nat.reduceMul, and_self, not_false_eq_true, not_true_eq_false, Nat.zero_add, Nat.add_zero, Bool.false_eq_true]
theorem m_accept (hG : okM I) (hV : okV B (mG I) V) (hBl : B + 1 < 2147483648) (hs : smV (mG I) V0 V) (hH : HiM I (mG I) mn U) (h16 : mn ≤ 16) : ∃ I', mPo I I' mn U V0 ((isR (gM (mG I)) x && isR (gN (mG I)) y) && cnd (mG I) V 3 (x.toNatClampNeg) (y.toNatClampNeg)) ∧ ∀ P, Wp L xs (d+7) 269 0 [some (.ref (420)), some (.int (x)), some (.int (y))] [] (mk (pm I V) J R Z) P = P (some (.int (if (isR (gM (mG I)) x && isR (gN (mG I)) y) = true then (stp (mG I) V 3 (x.toNatClampNeg) (y.toNatClampNeg)).1 else -1))) (mk (pm I' (if (isR (gM (mG I)) x && isR (gN (mG I)) y) = true then (stp (mG I) V 3 (x.toNatClampNeg) (y.toNatClampNeg)).2 else V)) J R Z) := by
  have hN : I 422 0 = nI (gN (mG I)) := hG.1.1.1
  have hN5 := hG.1.1.2
  have hM : I 422 2 = nI (gM (mG I)) := hG.1.2.1.1
  have h8 := hG.1.2.1.2
  obtain ⟨I2, hk1, hk2, hk⟩ := m_keeps (L := L) (xs := xs) (d := d + 5) (J := J) (R := R) (Z := Z) hs (HiM_T hH) h16
  have e2 : ∀ a, a ≠ 420 → a ≠ 455 → I2 a = I a := fun a h1 h2 => by rw [hk1.1 a h1 h2, st_ne h1]
  have hN2 : I2 422 0 = nI (gN (mG I)) := by rw [e2 _ (by decide) (by decide)]; exact hN
  have hM2 : I2 422 2 = nI (gM (mG I)) := by rw [e2 _ (by decide) (by decide)]; exact hM
  have e457 : I2 457 = I 457 := e2 _ (by decide) (by decide)
  by_cases hx : isR (gM (mG I)) x = true
  · by_cases hy : isR (gN (mG I)) y = true
    · obtain ⟨c, hc, rfl⟩ := isR_t hx (by omega)
      obtain ⟨r, hr, rfl⟩ := isR_t hy (by omega)
      rw [hx, hy, nI_clamp (by omega), nI_clamp (by omega), Bool.true_and, Bool.true_and]
      have hc8 : c < 8 := by omega
      have hl : I 427 c = nI (gL (mG I) c) := (hG.1.2.2.1 c hc).1
      have hl5 : gL (mG I) c < 5 := by have := (hG.1.2.2.1 c hc).2; omega
      have hh : V 9 c = nI (hst V c) := (hV.2.2.2.2.2.2.2.2.1.2 c hc).1
      have hh5 : hst V c < 5 := by have : hst V c < gN (mG I) := (hV.2.2.2.2.2.2.2.2.1.2 c hc).2; omega
      have hT := hV.2.1.2.2.1
      have hl2 : I2 427 c = nI (gL (mG I) c) := by rw [e2 _ (by decide) (by decide)]; exact hl
      have hr5 : r < 5 := by omega
      have h1 := fun P => m_canAccept (L := L) (xs := xs) (I := (st I 420 (upd (I 420) 0 (nI 0)))) (J := J) (R := R) (Z := Z) (P := P) (V := V) (d := d + 3) hc8 hr5 hh hh5
      by_cases hcond : (accd (V 0 0) (V 1) (hst V c) c && (tb (V 0 0) r && (decide (V 1 (8 * r + c) < nI 3) && (decide (V 2 (8 * r + c) ≤ V 2 (8 * hst V c + c)) && !tb (V 11 c) r)))) = true
      · have hcn1 : cnd (mG I) V 3 c r = true := hcond
        rw [hcn1]
        refine ⟨I2, mPo_yes hk1 hk2, fun P => ?_⟩
        show _ = P (some (.int (stC V c r).1)) (mk (pm I2 (stC V c r).2) J R Z)
        unfold stC
        simp only [hcond, ↓reduceIte]
        have h2 := fun P => m_accepts (L := L) (xs := xs) (I := I2) (J := J) (R := R) (Z := Z) (P := P) (V := V) (d := d + 4) hc8 hr5 hh hh5
        simp (discharger := omega) only [↓w269_0, ↓w269_1, ↓w269_2, ↓w269_5, ↓w269_6, ↓w269_7, ↓w269_10, ↓w269_13, ↓w269_14, ↓w269_15, ↓w269_18, ↓w269_21, ↓w269_22, ↓w269_23, ↓w269_24, ↓w269_27, ↓w269_30, ↓w269_31, ↓w269_32, ↓w269_33, ↓w269_36, ↓w269_37, ↓w269_38, ↓w269_39, ↓w269_42, ↓m_isCommand (mM' hM), ↓m_isReplica (mN' hN), hx, hy, ↓h1, ↓hk, ↓h2, hcond, bI_t, ↓kc_i, ↓kc_l, ↓kc_r, ↓kc_n, rc420, g420_0, p420_0, g420_1, p420_1, g420_2, g420_3, p420_3, g420_4, p420_4, g420_5, p420_5, g420_6, p420_6, g420_7, p420_7, g420_8, p420_8, g420_9, p420_9, g420_10, g420_11, g420_12, g420_13, g420_14, g420_15, g420_16, g420_17, g420_18, g420_19, p420_19, g420_20, g420_21, g420_22, g420_23, g420_24, g420_25, g420_26, g420_27, g420_28, g420_29, g420_30, g420_31, g420_32, p420_32, g420_33, g420_34, g420_35, g420_36, g420_37, g420_38, g420_39, g420_40, g420_41, g420_42, g420_43, g420_44, g420_45, g420_46, g420_47, p420_47, g420_48, g420_49, p420_49, gi451, si451, pm_eq, pm_ne, st_pm, st_pmne, rd1, rd2, rd3, rd4, rd5, rd6, rd2s, rd3s, rd4s, rd5s, rd7, rd8, rd9, rd10, rd11, rd0, rdc, wr1, wr2, wr3, wr4, wr5, wr6, wr2s, wr3s, wr4s, wr5s, wr7, wr8, wr9, wr10, wr11, wr0, wrc, st_ne, st_eq, st_st, mul8, mul8', mul4, mul4', nI_add, inT, nclN, ltT, ltF, leT, leF, eqT, eqF, nzF, m1F, m1T, shr, shg, bI0, bI1, bo_bI, bo_1, bo_0, eq10, eq00, frT1, frT2, frT3, fit0, fit1, fit2, fit3, true_and, and_true, ↓reduceIte, Nat.reduceAdd, Nat.reduceMul, and_self, not_false_eq_true, not_true_eq_false, Nat.zero_add, Nat.add_zero, Bool.true_eq_false] <;> rfl
      · have hcf := Bool.eq_false_iff.mpr hcond
        have hcn1 : cnd (mG I) V 3 c r = false := hcf
        rw [hcn1]
        refine ⟨_, mPo_no hH, fun P => ?_⟩
        show _ = P (some (.int (stC V c r).1)) (mk (pm _ (stC V c r).2) J R Z)
        unfold stC
        simp only [hcf, ↓reduceIte, Bool.false_eq_true]
        simp (discharger := omega) only [↓w269_0, ↓w269_1, ↓w269_2, ↓w269_5, ↓w269_6, ↓w269_7, ↓w269_10, ↓w269_13, ↓w269_14, ↓w269_15, ↓w269_18, ↓w269_21, ↓w269_22, ↓w269_23, ↓w269_24, ↓w269_27, ↓w269_30, ↓w269_31, ↓w269_32, ↓w269_33, ↓w269_36, ↓w269_37, ↓w269_38, ↓w269_39, ↓w269_42, ↓m_isCommand (mM' hM), ↓m_isReplica (mN' hN), hx, hy, ↓h1, hcf, bI_t, bI_f, ↓kc_i, ↓kc_l, ↓kc_r, ↓kc_n, rc420, g420_0, p420_0, g420_1, p420_1, g420_2, g420_3, p420_3, g420_4, p420_4, g420_5, p420_5, g420_6, p420_6, g420_7, p420_7, g420_8, p420_8, g420_9, p420_9, g420_10, g420_11, g420_12, g420_13, g420_14, g420_15, g420_16, g420_17, g420_18, g420_19, p420_19, g420_20, g420_21, g420_22, g420_23, g420_24, g420_25, g420_26, g420_27, g420_28, g420_29, g420_30, g420_31, g420_32, p420_32, g420_33, g420_34, g420_35, g420_36, g420_37, g420_38, g420_39, g420_40, g420_41, g420_42, g420_43, g420_44, g420_45, g420_46, g420_47, p420_47, g420_48, g420_49, p420_49, gi451, si451, pm_eq, pm_ne, st_pm, st_pmne, rd1, rd2, rd3, rd4, rd5, rd6, rd2s, rd3s, rd4s, rd5s, rd7, rd8, rd9, rd10, rd11, rd0, rdc, wr1, wr2, wr3, wr4, wr5, wr6, wr2s, wr3s, wr4s, wr5s, wr7, wr8, wr9, wr10, wr11, wr0, wrc, st_ne, st_eq, st_st, mul8, mul8', mul4, mul4', nI_add, inT, nclN, ltT, ltF, leT, leF, eqT, eqF, nzF, m1F, m1T, shr, shg, bI0, bI1, bo_bI, bo_1, bo_0, eq10, eq00, frT1, frT2, frT3, fit0, fit1, fit2, fit3, true_and, and_true, ↓reduceIte, Nat.reduceAdd, Nat.reduceMul, and_self, not_false_eq_true, not_true_eq_false, Nat.zero_add, Nat.add_zero, Bool.true_eq_false] <;> rfl
    · have hy' := Bool.eq_false_iff.mpr hy
      rw [hx, hy', Bool.and_false, Bool.false_and]
      refine ⟨_, mPo_no hH, fun P => ?_⟩
      simp (discharger := omega) only [↓w269_0, ↓w269_1, ↓w269_2, ↓w269_5, ↓w269_6, ↓w269_7, ↓w269_10, ↓w269_13, ↓w269_14, ↓w269_15, ↓w269_18, ↓w269_21, ↓w269_22, ↓w269_23, ↓w269_24, ↓w269_27, ↓w269_30, ↓w269_31, ↓w269_32, ↓w269_33, ↓w269_36, ↓w269_37, ↓w269_38, ↓w269_39, ↓w269_42, ↓m_isCommand (mM' hM), ↓m_isReplica (mN' hN), hx, hy', bI_t, bI_f, ↓kc_i, ↓kc_l, ↓kc_r, ↓kc_n, rc420, g420_0, p420_0, g420_1, p420_1, g420_2, g420_3, p420_3, g420_4, p420_4, g420_5, p420_5, g420_6, p420_6, g420_7, p420_7, g420_8, p420_8, g420_9, p420_9, g420_10, g420_11, g420_12, g420_13, g420_14, g420_15, g420_16, g420_17, g420_18, g420_19, p420_19, g420_20, g420_21, g420_22, g420_23, g420_24, g420_25, g420_26, g420_27, g420_28, g420_29, g420_30, g420_31, g420_32, p420_32, g420_33, g420_34, g420_35, g420_36, g420_37, g420_38, g420_39, g420_40, g420_41, g420_42, g420_43, g420_44, g420_45, g420_46, g420_47, p420_47, g420_48, g420_49, p420_49, pm_eq, pm_ne, st_pm, st_pmne, rd1, rd2, rd3, rd4, rd5, rd6, rd2s, rd3s, rd4s, rd5s, rd7, rd8, rd9, rd10, rd11, rd0, rdc, wr1, wr2, wr3, wr4, wr5, wr6, wr2s, wr3s, wr4s, wr5s, wr7, wr8, wr9, wr10, wr11, wr0, wrc, st_ne, st_eq, st_st, mul8, mul8', mul4, mul4', nI_add, inT, nclN, ltT, ltF, leT, leF, eqT, eqF, nzF, m1F, m1T, shr, shg, bI0, bI1, bo_bI, bo_1, bo_0, eq10, eq00, frT1, frT2, frT3, fit0, fit1, fit2, fit3, true_and, and_true, ↓reduceIte, Nat.reduceAdd, Nat.reduceMul, and_self, not_false_eq_true, not_true_eq_false, Nat.zero_add, Nat.add_zero, Bool.false_eq_true]
  · have hx' := Bool.eq_false_iff.mpr hx
    rw [hx', Bool.false_and, Bool.false_and]
    refine ⟨_, mPo_no hH, fun P => ?_⟩
    simp (discharger := omega) only [↓w269_0, ↓w269_1, ↓w269_2, ↓w269_5, ↓w269_6, ↓w269_7, ↓w269_10, ↓w269_13, ↓w269_14, ↓w269_15, ↓w269_18, ↓w269_21, ↓w269_22, ↓w269_23, ↓w269_24, ↓w269_27, ↓w269_30, ↓w269_31, ↓w269_32, ↓w269_33, ↓w269_36, ↓w269_37, ↓w269_38, ↓w269_39, ↓w269_42, ↓m_isCommand (mM' hM), ↓m_isReplica (mN' hN), hx', bI_f, ↓kc_i, ↓kc_l, ↓kc_r, ↓kc_n, rc420, g420_0, p420_0, g420_1, p420_1, g420_2, g420_3, p420_3, g420_4, p420_4, g420_5, p420_5, g420_6, p420_6, g420_7, p420_7, g420_8, p420_8, g420_9, p420_9, g420_10, g420_11, g420_12, g420_13, g420_14, g420_15, g420_16, g420_17, g420_18, g420_19, p420_19, g420_20, g420_21, g420_22, g420_23, g420_24, g420_25, g420_26, g420_27, g420_28, g420_29, g420_30, g420_31, g420_32, p420_32, g420_33, g420_34, g420_35, g420_36, g420_37, g420_38, g420_39, g420_40, g420_41, g420_42, g420_43, g420_44, g420_45, g420_46, g420_47, p420_47, g420_48, g420_49, p420_49, pm_eq, pm_ne, st_pm, st_pmne, rd1, rd2, rd3, rd4, rd5, rd6, rd2s, rd3s, rd4s, rd5s, rd7, rd8, rd9, rd10, rd11, rd0, rdc, wr1, wr2, wr3, wr4, wr5, wr6, wr2s, wr3s, wr4s, wr5s, wr7, wr8, wr9, wr10, wr11, wr0, wrc, st_ne, st_eq, st_st, mul8, mul8', mul4, mul4', nI_add, inT, nclN, ltT, ltF, leT, leF, eqT, eqF, nzF, m1F, m1T, shr, shg, bI0, bI1, bo_bI, bo_1, bo_0, eq10, eq00, frT1, frT2, frT3, fit0, fit1, fit2, fit3, true_and, and_true, ↓reduceIte, Nat.reduceAdd, Nat.reduceMul, and_self, not_false_eq_true, not_true_eq_false, Nat.zero_add, Nat.add_zero, Bool.false_eq_true]
theorem m_settle (hG : okM I) (hV : okV B (mG I) V) (hBl : B + 1 < 2147483648) (hs : smV (mG I) V0 V) (hH : HiM I (mG I) mn U) (h16 : mn ≤ 16) : ∃ I', mPo I I' mn U V0 (isR (gM (mG I)) x && cnd (mG I) V 4 (x.toNatClampNeg) (0)) ∧ ∀ P, Wp L xs (d+7) 270 0 [some (.ref (420)), some (.int (x))] [] (mk (pm I V) J R Z) P = P (some (.int (bI (isR (gM (mG I)) x && cnd (mG I) V 4 (x.toNatClampNeg) (0))))) (mk (pm I' (if isR (gM (mG I)) x = true then (stp (mG I) V 4 (x.toNatClampNeg) (0)).2 else V)) J R Z) := by
  have hN : I 422 0 = nI (gN (mG I)) := hG.1.1.1
  have hN5 := hG.1.1.2
  have hM : I 422 2 = nI (gM (mG I)) := hG.1.2.1.1
  have h8 := hG.1.2.1.2
  obtain ⟨I2, hk1, hk2, hk⟩ := m_keeps (L := L) (xs := xs) (d := d + 5) (J := J) (R := R) (Z := Z) hs (HiM_T hH) h16
  have e2 : ∀ a, a ≠ 420 → a ≠ 455 → I2 a = I a := fun a h1 h2 => by rw [hk1.1 a h1 h2, st_ne h1]
  have hN2 : I2 422 0 = nI (gN (mG I)) := by rw [e2 _ (by decide) (by decide)]; exact hN
  have hM2 : I2 422 2 = nI (gM (mG I)) := by rw [e2 _ (by decide) (by decide)]; exact hM
  have e457 : I2 457 = I 457 := e2 _ (by decide) (by decide)
  by_cases hx : isR (gM (mG I)) x = true
  · obtain ⟨c, hc, rfl⟩ := isR_t hx (by omega)
    rw [hx, nI_clamp (by omega), Bool.true_and]
    have hc8 : c < 8 := by omega
    have hl : I 427 c = nI (gL (mG I) c) := (hG.1.2.2.1 c hc).1
    have hl5 : gL (mG I) c < 5 := by have := (hG.1.2.2.1 c hc).2; omega
    have hh : V 9 c = nI (hst V c) := (hV.2.2.2.2.2.2.2.2.1.2 c hc).1
    have hh5 : hst V c < 5 := by have : hst V c < gN (mG I) := (hV.2.2.2.2.2.2.2.2.1.2 c hc).2; omega
    have hT := hV.2.1.2.2.1
    have hl2 : I2 427 c = nI (gL (mG I) c) := by rw [e2 _ (by decide) (by decide)]; exact hl
    have h1 := fun P => m_canSettle (L := L) (xs := xs) (I := (st I 420 (upd (I 420) 0 (nI 0)))) (J := J) (R := R) (Z := Z) (P := P) (V := V) (d := d + 3) hc8 (mT (by decide) hN) hN5 hh hh5
    by_cases hcond : (accd (V 0 0) (V 1) (hst V c) c && decide (mst (gN (mG I)) ≤ pcn (V 11 c))) = true
    · have hcn1 : cnd (mG I) V 4 c 0 = true := hcond
      rw [hcn1]
      refine ⟨I2, mPo_yes hk1 hk2, fun P => ?_⟩
      show _ = P (some (.int (bI true))) (mk (pm I2 (stS (mG I) V c).2) J R Z)
      unfold stS
      simp only [hcond, ↓reduceIte]
      simp (discharger := omega) only [↓w270_0, ↓w270_1, ↓w270_2, ↓w270_5, ↓w270_6, ↓w270_7, ↓w270_10, ↓w270_13, ↓w270_14, ↓w270_15, ↓w270_18, ↓w270_21, ↓w270_22, ↓w270_23, ↓w270_24, ↓w270_27, ↓w270_28, ↓w270_31, ↓w270_33, ↓w270_34, ↓w270_37, ↓w270_40, ↓w270_41, ↓w270_42, ↓w270_43, ↓w270_44, ↓w270_45, ↓w270_46, ↓w270_47, ↓w270_48, ↓w270_49, ↓m_isCommand (mM' hM), ↓m_isReplica (mN' hN), hx, ↓h1, ↓hk, hcond, hh, bI_t, ↓kc_i, ↓kc_l, ↓kc_r, ↓kc_n, rc420, g420_0, p420_0, g420_1, p420_1, g420_2, g420_3, p420_3, g420_4, p420_4, g420_5, p420_5, g420_6, p420_6, g420_7, p420_7, g420_8, p420_8, g420_9, p420_9, g420_10, g420_11, g420_12, g420_13, g420_14, g420_15, g420_16, g420_17, g420_18, g420_19, p420_19, g420_20, g420_21, g420_22, g420_23, g420_24, g420_25, g420_26, g420_27, g420_28, g420_29, g420_30, g420_31, g420_32, p420_32, g420_33, g420_34, g420_35, g420_36, g420_37, g420_38, g420_39, g420_40, g420_41, g420_42, g420_43, g420_44, g420_45, g420_46, g420_47, p420_47, g420_48, g420_49, p420_49, gi451, si451, pm_eq, pm_ne, st_pm, st_pmne, rd1, rd2, rd3, rd4, rd5, rd6, rd2s, rd3s, rd4s, rd5s, rd7, rd8, rd9, rd10, rd11, rd0, rdc, wr1, wr2, wr3, wr4, wr5, wr6, wr2s, wr3s, wr4s, wr5s, wr7, wr8, wr9, wr10, wr11, wr0, wrc, st_ne, st_eq, st_st, mul8, mul8', mul4, mul4', nI_add, inT, nclN, ltT, ltF, leT, leF, eqT, eqF, nzF, m1F, m1T, shr, shg, bI0, bI1, bo_bI, bo_1, bo_0, eq10, eq00, frT1, frT2, frT3, fit0, fit1, fit2, fit3, true_and, and_true, ↓reduceIte, Nat.reduceAdd, Nat.reduceMul, and_self, not_false_eq_true, not_true_eq_false, Nat.zero_add, Nat.add_zero, Bool.true_eq_false] <;> rfl
    · have hcf := Bool.eq_false_iff.mpr hcond
      have hcn1 : cnd (mG I) V 4 c 0 = false := hcf
      rw [hcn1]
      refine ⟨_, mPo_no hH, fun P => ?_⟩
      show _ = P (some (.int (bI false))) (mk (pm _ (stS (mG I) V c).2) J R Z)
      unfold stS
      simp only [hcf, ↓reduceIte, Bool.false_eq_true]
      simp (discharger := omega) only [↓w270_0, ↓w270_1, ↓w270_2, ↓w270_5, ↓w270_6, ↓w270_7, ↓w270_10, ↓w270_13, ↓w270_14, ↓w270_15, ↓w270_18, ↓w270_21, ↓w270_22, ↓w270_23, ↓w270_24, ↓w270_27, ↓w270_28, ↓w270_31, ↓w270_33, ↓w270_34, ↓w270_37, ↓w270_40, ↓w270_41, ↓w270_42, ↓w270_43, ↓w270_44, ↓w270_45, ↓w270_46, ↓w270_47, ↓w270_48, ↓w270_49, ↓m_isCommand (mM' hM), ↓m_isReplica (mN' hN), hx, ↓h1, hcf, bI_t, bI_f, ↓kc_i, ↓kc_l, ↓kc_r, ↓kc_n, rc420, g420_0, p420_0, g420_1, p420_1, g420_2, g420_3, p420_3, g420_4, p420_4, g420_5, p420_5, g420_6, p420_6, g420_7, p420_7, g420_8, p420_8, g420_9, p420_9, g420_10, g420_11, g420_12, g420_13, g420_14, g420_15, g420_16, g420_17, g420_18, g420_19, p420_19, g420_20, g420_21, g420_22, g420_23, g420_24, g420_25, g420_26, g420_27, g420_28, g420_29, g420_30, g420_31, g420_32, p420_32, g420_33, g420_34, g420_35, g420_36, g420_37, g420_38, g420_39, g420_40, g420_41, g420_42, g420_43, g420_44, g420_45, g420_46, g420_47, p420_47, g420_48, g420_49, p420_49, gi451, si451, pm_eq, pm_ne, st_pm, st_pmne, rd1, rd2, rd3, rd4, rd5, rd6, rd2s, rd3s, rd4s, rd5s, rd7, rd8, rd9, rd10, rd11, rd0, rdc, wr1, wr2, wr3, wr4, wr5, wr6, wr2s, wr3s, wr4s, wr5s, wr7, wr8, wr9, wr10, wr11, wr0, wrc, st_ne, st_eq, st_st, mul8, mul8', mul4, mul4', nI_add, inT, nclN, ltT, ltF, leT, leF, eqT, eqF, nzF, m1F, m1T, shr, shg, bI0, bI1, bo_bI, bo_1, bo_0, eq10, eq00, frT1, frT2, frT3, fit0, fit1, fit2, fit3, true_and, and_true, ↓reduceIte, Nat.reduceAdd, Nat.reduceMul, and_self, not_false_eq_true, not_true_eq_false, Nat.zero_add, Nat.add_zero, Bool.true_eq_false] <;> rfl
  · have hx' := Bool.eq_false_iff.mpr hx
    rw [hx', Bool.false_and]
    refine ⟨_, mPo_no hH, fun P => ?_⟩
    simp (discharger := omega) only [↓w270_0, ↓w270_1, ↓w270_2, ↓w270_5, ↓w270_6, ↓w270_7, ↓w270_10, ↓w270_13, ↓w270_14, ↓w270_15, ↓w270_18, ↓w270_21, ↓w270_22, ↓w270_23, ↓w270_24, ↓w270_27, ↓w270_28, ↓w270_31, ↓w270_33, ↓w270_34, ↓w270_37, ↓w270_40, ↓w270_41, ↓w270_42, ↓w270_43, ↓w270_44, ↓w270_45, ↓w270_46, ↓w270_47, ↓w270_48, ↓w270_49, ↓m_isCommand (mM' hM), ↓m_isReplica (mN' hN), hx', bI_f, ↓kc_i, ↓kc_l, ↓kc_r, ↓kc_n, rc420, g420_0, p420_0, g420_1, p420_1, g420_2, g420_3, p420_3, g420_4, p420_4, g420_5, p420_5, g420_6, p420_6, g420_7, p420_7, g420_8, p420_8, g420_9, p420_9, g420_10, g420_11, g420_12, g420_13, g420_14, g420_15, g420_16, g420_17, g420_18, g420_19, p420_19, g420_20, g420_21, g420_22, g420_23, g420_24, g420_25, g420_26, g420_27, g420_28, g420_29, g420_30, g420_31, g420_32, p420_32, g420_33, g420_34, g420_35, g420_36, g420_37, g420_38, g420_39, g420_40, g420_41, g420_42, g420_43, g420_44, g420_45, g420_46, g420_47, p420_47, g420_48, g420_49, p420_49, pm_eq, pm_ne, st_pm, st_pmne, rd1, rd2, rd3, rd4, rd5, rd6, rd2s, rd3s, rd4s, rd5s, rd7, rd8, rd9, rd10, rd11, rd0, rdc, wr1, wr2, wr3, wr4, wr5, wr6, wr2s, wr3s, wr4s, wr5s, wr7, wr8, wr9, wr10, wr11, wr0, wrc, st_ne, st_eq, st_st, mul8, mul8', mul4, mul4', nI_add, inT, nclN, ltT, ltF, leT, leF, eqT, eqF, nzF, m1F, m1T, shr, shg, bI0, bI1, bo_bI, bo_1, bo_0, eq10, eq00, frT1, frT2, frT3, fit0, fit1, fit2, fit3, true_and, and_true, ↓reduceIte, Nat.reduceAdd, Nat.reduceMul, and_self, not_false_eq_true, not_true_eq_false, Nat.zero_add, Nat.add_zero, Bool.false_eq_true]
theorem m_down (hG : okM I) (hV : okV B (mG I) V) (hBl : B + 1 < 2147483648) (hs : smV (mG I) V0 V) (hH : HiM I (mG I) mn U) (h16 : mn ≤ 16) : ∃ I', mPo I I' mn U V0 (isR (gN (mG I)) x && cnd (mG I) V 8 (0) (x.toNatClampNeg)) ∧ ∀ P, Wp L xs (d+7) 272 0 [some (.ref (420)), some (.int (x))] [] (mk (pm I V) J R Z) P = P (some (.int (bI (isR (gN (mG I)) x && cnd (mG I) V 8 (0) (x.toNatClampNeg))))) (mk (pm I' (if isR (gN (mG I)) x = true then (stp (mG I) V 8 (0) (x.toNatClampNeg)).2 else V)) J R Z) := by
  have hN : I 422 0 = nI (gN (mG I)) := hG.1.1.1
  have hN5 := hG.1.1.2
  have hM : I 422 2 = nI (gM (mG I)) := hG.1.2.1.1
  have h8 := hG.1.2.1.2
  obtain ⟨I2, hk1, hk2, hk⟩ := m_keeps (L := L) (xs := xs) (d := d + 5) (J := J) (R := R) (Z := Z) hs (HiM_T hH) h16
  have e2 : ∀ a, a ≠ 420 → a ≠ 455 → I2 a = I a := fun a h1 h2 => by rw [hk1.1 a h1 h2, st_ne h1]
  have hN2 : I2 422 0 = nI (gN (mG I)) := by rw [e2 _ (by decide) (by decide)]; exact hN
  have hM2 : I2 422 2 = nI (gM (mG I)) := by rw [e2 _ (by decide) (by decide)]; exact hM
  have e457 : I2 457 = I 457 := e2 _ (by decide) (by decide)
  by_cases hx : isR (gN (mG I)) x = true
  · obtain ⟨r, hr, rfl⟩ := isR_t hx (by omega)
    rw [hx, nI_clamp (by omega), Bool.true_and]
    have hr5 : r < 5 := by omega
    have h1 := fun P => m_isUp (L := L) (xs := xs) (I := (st I 420 (upd (I 420) 0 (nI 0)))) (J := J) (R := R) (Z := Z) (P := P) (V := V) (d := d + 5) (r := r) (by omega)
    by_cases hcond : (tb (V 0 0) r) = true
    · have hcn1 : cnd (mG I) V 8 0 r = true := hcond
      rw [hcn1]
      refine ⟨I2, mPo_yes hk1 hk2, fun P => ?_⟩
      show _ = P (some (.int (bI true))) (mk (pm I2 (stU V r true).2) J R Z)
      unfold stU
      simp only [hcond, ↓reduceIte]
      simp (discharger := omega) only [↓w272_0, ↓w272_1, ↓w272_2, ↓w272_5, ↓w272_6, ↓w272_7, ↓w272_10, ↓w272_13, ↓w272_14, ↓w272_15, ↓w272_18, ↓w272_21, ↓w272_22, ↓w272_23, ↓w272_24, ↓w272_27, ↓w272_28, ↓w272_31, ↓w272_34, ↓w272_35, ↓w272_36, ↓w272_37, ↓w272_38, ↓w272_39, ↓w272_40, ↓w272_41, ↓w272_42, ↓m_isCommand (mM' hM), ↓m_isReplica (mN' hN), hx, ↓h1, ↓hk, hcond, bI_t, ↓kc_i, ↓kc_l, ↓kc_r, ↓kc_n, rc420, g420_0, p420_0, g420_1, p420_1, g420_2, g420_3, p420_3, g420_4, p420_4, g420_5, p420_5, g420_6, p420_6, g420_7, p420_7, g420_8, p420_8, g420_9, p420_9, g420_10, g420_11, g420_12, g420_13, g420_14, g420_15, g420_16, g420_17, g420_18, g420_19, p420_19, g420_20, g420_21, g420_22, g420_23, g420_24, g420_25, g420_26, g420_27, g420_28, g420_29, g420_30, g420_31, g420_32, p420_32, g420_33, g420_34, g420_35, g420_36, g420_37, g420_38, g420_39, g420_40, g420_41, g420_42, g420_43, g420_44, g420_45, g420_46, g420_47, p420_47, g420_48, g420_49, p420_49, gi451, si451, pm_eq, pm_ne, st_pm, st_pmne, rd1, rd2, rd3, rd4, rd5, rd6, rd2s, rd3s, rd4s, rd5s, rd7, rd8, rd9, rd10, rd11, rd0, rdc, wr1, wr2, wr3, wr4, wr5, wr6, wr2s, wr3s, wr4s, wr5s, wr7, wr8, wr9, wr10, wr11, wr0, wrc, st_ne, st_eq, st_st, mul8, mul8', mul4, mul4', nI_add, inT, nclN, ltT, ltF, leT, leF, eqT, eqF, nzF, m1F, m1T, shr, shg, bI0, bI1, bo_bI, bo_1, bo_0, eq10, eq00, frT1, frT2, frT3, fit0, fit1, fit2, fit3, true_and, and_true, ↓reduceIte, Nat.reduceAdd, Nat.reduceMul, and_self, not_false_eq_true, not_true_eq_false, Nat.zero_add, Nat.add_zero, Bool.true_eq_false] <;> rfl
    · have hcf := Bool.eq_false_iff.mpr hcond
      have hcn1 : cnd (mG I) V 8 0 r = false := hcf
      rw [hcn1]
      refine ⟨_, mPo_no hH, fun P => ?_⟩
      show _ = P (some (.int (bI false))) (mk (pm _ (stU V r true).2) J R Z)
      unfold stU
      simp only [hcf, ↓reduceIte, Bool.false_eq_true]
      simp (discharger := omega) only [↓w272_0, ↓w272_1, ↓w272_2, ↓w272_5, ↓w272_6, ↓w272_7, ↓w272_10, ↓w272_13, ↓w272_14, ↓w272_15, ↓w272_18, ↓w272_21, ↓w272_22, ↓w272_23, ↓w272_24, ↓w272_27, ↓w272_28, ↓w272_31, ↓w272_34, ↓w272_35, ↓w272_36, ↓w272_37, ↓w272_38, ↓w272_39, ↓w272_40, ↓w272_41, ↓w272_42, ↓m_isCommand (mM' hM), ↓m_isReplica (mN' hN), hx, ↓h1, hcf, bI_t, bI_f, ↓kc_i, ↓kc_l, ↓kc_r, ↓kc_n, rc420, g420_0, p420_0, g420_1, p420_1, g420_2, g420_3, p420_3, g420_4, p420_4, g420_5, p420_5, g420_6, p420_6, g420_7, p420_7, g420_8, p420_8, g420_9, p420_9, g420_10, g420_11, g420_12, g420_13, g420_14, g420_15, g420_16, g420_17, g420_18, g420_19, p420_19, g420_20, g420_21, g420_22, g420_23, g420_24, g420_25, g420_26, g420_27, g420_28, g420_29, g420_30, g420_31, g420_32, p420_32, g420_33, g420_34, g420_35, g420_36, g420_37, g420_38, g420_39, g420_40, g420_41, g420_42, g420_43, g420_44, g420_45, g420_46, g420_47, p420_47, g420_48, g420_49, p420_49, gi451, si451, pm_eq, pm_ne, st_pm, st_pmne, rd1, rd2, rd3, rd4, rd5, rd6, rd2s, rd3s, rd4s, rd5s, rd7, rd8, rd9, rd10, rd11, rd0, rdc, wr1, wr2, wr3, wr4, wr5, wr6, wr2s, wr3s, wr4s, wr5s, wr7, wr8, wr9, wr10, wr11, wr0, wrc, st_ne, st_eq, st_st, mul8, mul8', mul4, mul4', nI_add, inT, nclN, ltT, ltF, leT, leF, eqT, eqF, nzF, m1F, m1T, shr, shg, bI0, bI1, bo_bI, bo_1, bo_0, eq10, eq00, frT1, frT2, frT3, fit0, fit1, fit2, fit3, true_and, and_true, ↓reduceIte, Nat.reduceAdd, Nat.reduceMul, and_self, not_false_eq_true, not_true_eq_false, Nat.zero_add, Nat.add_zero, Bool.true_eq_false] <;> rfl
  · have hx' := Bool.eq_false_iff.mpr hx
    rw [hx', Bool.false_and]
    refine ⟨_, mPo_no hH, fun P => ?_⟩
    simp (discharger := omega) only [↓w272_0, ↓w272_1, ↓w272_2, ↓w272_5, ↓w272_6, ↓w272_7, ↓w272_10, ↓w272_13, ↓w272_14, ↓w272_15, ↓w272_18, ↓w272_21, ↓w272_22, ↓w272_23, ↓w272_24, ↓w272_27, ↓w272_28, ↓w272_31, ↓w272_34, ↓w272_35, ↓w272_36, ↓w272_37, ↓w272_38, ↓w272_39, ↓w272_40, ↓w272_41, ↓w272_42, ↓m_isCommand (mM' hM), ↓m_isReplica (mN' hN), hx', bI_f, ↓kc_i, ↓kc_l, ↓kc_r, ↓kc_n, rc420, g420_0, p420_0, g420_1, p420_1, g420_2, g420_3, p420_3, g420_4, p420_4, g420_5, p420_5, g420_6, p420_6, g420_7, p420_7, g420_8, p420_8, g420_9, p420_9, g420_10, g420_11, g420_12, g420_13, g420_14, g420_15, g420_16, g420_17, g420_18, g420_19, p420_19, g420_20, g420_21, g420_22, g420_23, g420_24, g420_25, g420_26, g420_27, g420_28, g420_29, g420_30, g420_31, g420_32, p420_32, g420_33, g420_34, g420_35, g420_36, g420_37, g420_38, g420_39, g420_40, g420_41, g420_42, g420_43, g420_44, g420_45, g420_46, g420_47, p420_47, g420_48, g420_49, p420_49, pm_eq, pm_ne, st_pm, st_pmne, rd1, rd2, rd3, rd4, rd5, rd6, rd2s, rd3s, rd4s, rd5s, rd7, rd8, rd9, rd10, rd11, rd0, rdc, wr1, wr2, wr3, wr4, wr5, wr6, wr2s, wr3s, wr4s, wr5s, wr7, wr8, wr9, wr10, wr11, wr0, wrc, st_ne, st_eq, st_st, mul8, mul8', mul4, mul4', nI_add, inT, nclN, ltT, ltF, leT, leF, eqT, eqF, nzF, m1F, m1T, shr, shg, bI0, bI1, bo_bI, bo_1, bo_0, eq10, eq00, frT1, frT2, frT3, fit0, fit1, fit2, fit3, true_and, and_true, ↓reduceIte, Nat.reduceAdd, Nat.reduceMul, and_self, not_false_eq_true, not_true_eq_false, Nat.zero_add, Nat.add_zero, Bool.false_eq_true]
theorem m_recover (hG : okM I) (hV : okV B (mG I) V) (hBl : B + 1 < 2147483648) (hs : smV (mG I) V0 V) (hH : HiM I (mG I) mn U) (h16 : mn ≤ 16) : ∃ I', mPo I I' mn U V0 ((isR (gM (mG I)) x && isR (gN (mG I)) y) && cnd (mG I) V 6 (x.toNatClampNeg) (y.toNatClampNeg)) ∧ ∀ P, Wp L xs (d+7) 274 0 [some (.ref (420)), some (.int (x)), some (.int (y))] [] (mk (pm I V) J R Z) P = P (some (.int (if (isR (gM (mG I)) x && isR (gN (mG I)) y) = true then (stp (mG I) V 6 (x.toNatClampNeg) (y.toNatClampNeg)).1 else -1))) (mk (pm I' (if (isR (gM (mG I)) x && isR (gN (mG I)) y) = true then (stp (mG I) V 6 (x.toNatClampNeg) (y.toNatClampNeg)).2 else V)) J R Z) := by
  have hN : I 422 0 = nI (gN (mG I)) := hG.1.1.1
  have hN5 := hG.1.1.2
  have hM : I 422 2 = nI (gM (mG I)) := hG.1.2.1.1
  have h8 := hG.1.2.1.2
  obtain ⟨I2, hk1, hk2, hk⟩ := m_keeps (L := L) (xs := xs) (d := d + 5) (J := J) (R := R) (Z := Z) hs (HiM_T hH) h16
  have e2 : ∀ a, a ≠ 420 → a ≠ 455 → I2 a = I a := fun a h1 h2 => by rw [hk1.1 a h1 h2, st_ne h1]
  have hN2 : I2 422 0 = nI (gN (mG I)) := by rw [e2 _ (by decide) (by decide)]; exact hN
  have hM2 : I2 422 2 = nI (gM (mG I)) := by rw [e2 _ (by decide) (by decide)]; exact hM
  have e457 : I2 457 = I 457 := e2 _ (by decide) (by decide)
  by_cases hx : isR (gM (mG I)) x = true
  · by_cases hy : isR (gN (mG I)) y = true
    · obtain ⟨c, hc, rfl⟩ := isR_t hx (by omega)
      obtain ⟨r, hr, rfl⟩ := isR_t hy (by omega)
      rw [hx, hy, nI_clamp (by omega), nI_clamp (by omega), Bool.true_and, Bool.true_and]
      have hc8 : c < 8 := by omega
      have hl : I 427 c = nI (gL (mG I) c) := (hG.1.2.2.1 c hc).1
      have hl5 : gL (mG I) c < 5 := by have := (hG.1.2.2.1 c hc).2; omega
      have hh : V 9 c = nI (hst V c) := (hV.2.2.2.2.2.2.2.2.1.2 c hc).1
      have hh5 : hst V c < 5 := by have : hst V c < gN (mG I) := (hV.2.2.2.2.2.2.2.2.1.2 c hc).2; omega
      have hT := hV.2.1.2.2.1
      have hl2 : I2 427 c = nI (gL (mG I) c) := by rw [e2 _ (by decide) (by decide)]; exact hl
      have hr5 : r < 5 := by omega
      have h1 := fun P => m_canRecover (L := L) (xs := xs) (I := (st I 420 (upd (I 420) 0 (nI 0)))) (J := J) (R := R) (Z := Z) (P := P) (V := V) (d := d + 4) hc8 hr5 (mT (by decide) hN) hN5
      by_cases hcond : (canRec (gN (mG I)) (V 0 0) (V 1) r c) = true
      · have hcn1 : cnd (mG I) V 6 c r = true := hcond
        rw [hcn1]
        refine ⟨I2, mPo_yes hk1 hk2, fun P => ?_⟩
        show _ = P (some (.int (stR (mG I) V c r).1)) (mk (pm I2 (stR (mG I) V c r).2) J R Z)
        unfold stR
        unfold fdV
        simp only [hcond, ↓reduceIte]
        have h2 := fun P => m_recovers (L := L) (xs := xs) (I := I2) (J := J) (R := R) (Z := Z) (P := P) (V := V) (d := d + 1) hc8 hr5 hN2 hN5 hM2 h8 hl2 hl5
        rw [e457, mfd_eq (cl := I 457) hN5 h8 hc8 hl5 hT hV.2.1.2.2.2.1 hV.2.2.1.2 (show B < 2147483648 by omega) (hG.2.1 c hc)] at h2
        simp only [rfin_eq] at h2
        simp (discharger := omega) only [↓w274_0, ↓w274_1, ↓w274_2, ↓w274_5, ↓w274_6, ↓w274_7, ↓w274_10, ↓w274_13, ↓w274_14, ↓w274_15, ↓w274_18, ↓w274_21, ↓w274_22, ↓w274_23, ↓w274_24, ↓w274_27, ↓w274_30, ↓w274_31, ↓w274_32, ↓w274_33, ↓w274_36, ↓w274_37, ↓w274_38, ↓w274_39, ↓w274_42, ↓m_isCommand (mM' hM), ↓m_isReplica (mN' hN), hx, hy, ↓h1, ↓hk, ↓h2, hcond, bI_t, ↓kc_i, ↓kc_l, ↓kc_r, ↓kc_n, rc420, g420_0, p420_0, g420_1, p420_1, g420_2, g420_3, p420_3, g420_4, p420_4, g420_5, p420_5, g420_6, p420_6, g420_7, p420_7, g420_8, p420_8, g420_9, p420_9, g420_10, g420_11, g420_12, g420_13, g420_14, g420_15, g420_16, g420_17, g420_18, g420_19, p420_19, g420_20, g420_21, g420_22, g420_23, g420_24, g420_25, g420_26, g420_27, g420_28, g420_29, g420_30, g420_31, g420_32, p420_32, g420_33, g420_34, g420_35, g420_36, g420_37, g420_38, g420_39, g420_40, g420_41, g420_42, g420_43, g420_44, g420_45, g420_46, g420_47, p420_47, g420_48, g420_49, p420_49, gi451, si451, pm_eq, pm_ne, st_pm, st_pmne, rd1, rd2, rd3, rd4, rd5, rd6, rd2s, rd3s, rd4s, rd5s, rd7, rd8, rd9, rd10, rd11, rd0, rdc, wr1, wr2, wr3, wr4, wr5, wr6, wr2s, wr3s, wr4s, wr5s, wr7, wr8, wr9, wr10, wr11, wr0, wrc, st_ne, st_eq, st_st, mul8, mul8', mul4, mul4', nI_add, inT, nclN, ltT, ltF, leT, leF, eqT, eqF, nzF, m1F, m1T, shr, shg, bI0, bI1, bo_bI, bo_1, bo_0, eq10, eq00, frT1, frT2, frT3, fit0, fit1, fit2, fit3, true_and, and_true, ↓reduceIte, Nat.reduceAdd, Nat.reduceMul, and_self, not_false_eq_true, not_true_eq_false, Nat.zero_add, Nat.add_zero, Bool.true_eq_false] <;> rfl
      · have hcf := Bool.eq_false_iff.mpr hcond
        have hcn1 : cnd (mG I) V 6 c r = false := hcf
        rw [hcn1]
        refine ⟨_, mPo_no hH, fun P => ?_⟩
        show _ = P (some (.int (stR (mG I) V c r).1)) (mk (pm _ (stR (mG I) V c r).2) J R Z)
        unfold stR
        simp only [hcf, ↓reduceIte, Bool.false_eq_true]
        simp (discharger := omega) only [↓w274_0, ↓w274_1, ↓w274_2, ↓w274_5, ↓w274_6, ↓w274_7, ↓w274_10, ↓w274_13, ↓w274_14, ↓w274_15, ↓w274_18, ↓w274_21, ↓w274_22, ↓w274_23, ↓w274_24, ↓w274_27, ↓w274_30, ↓w274_31, ↓w274_32, ↓w274_33, ↓w274_36, ↓w274_37, ↓w274_38, ↓w274_39, ↓w274_42, ↓m_isCommand (mM' hM), ↓m_isReplica (mN' hN), hx, hy, ↓h1, hcf, bI_t, bI_f, ↓kc_i, ↓kc_l, ↓kc_r, ↓kc_n, rc420, g420_0, p420_0, g420_1, p420_1, g420_2, g420_3, p420_3, g420_4, p420_4, g420_5, p420_5, g420_6, p420_6, g420_7, p420_7, g420_8, p420_8, g420_9, p420_9, g420_10, g420_11, g420_12, g420_13, g420_14, g420_15, g420_16, g420_17, g420_18, g420_19, p420_19, g420_20, g420_21, g420_22, g420_23, g420_24, g420_25, g420_26, g420_27, g420_28, g420_29, g420_30, g420_31, g420_32, p420_32, g420_33, g420_34, g420_35, g420_36, g420_37, g420_38, g420_39, g420_40, g420_41, g420_42, g420_43, g420_44, g420_45, g420_46, g420_47, p420_47, g420_48, g420_49, p420_49, gi451, si451, pm_eq, pm_ne, st_pm, st_pmne, rd1, rd2, rd3, rd4, rd5, rd6, rd2s, rd3s, rd4s, rd5s, rd7, rd8, rd9, rd10, rd11, rd0, rdc, wr1, wr2, wr3, wr4, wr5, wr6, wr2s, wr3s, wr4s, wr5s, wr7, wr8, wr9, wr10, wr11, wr0, wrc, st_ne, st_eq, st_st, mul8, mul8', mul4, mul4', nI_add, inT, nclN, ltT, ltF, leT, leF, eqT, eqF, nzF, m1F, m1T, shr, shg, bI0, bI1, bo_bI, bo_1, bo_0, eq10, eq00, frT1, frT2, frT3, fit0, fit1, fit2, fit3, true_and, and_true, ↓reduceIte, Nat.reduceAdd, Nat.reduceMul, and_self, not_false_eq_true, not_true_eq_false, Nat.zero_add, Nat.add_zero, Bool.true_eq_false] <;> rfl
    · have hy' := Bool.eq_false_iff.mpr hy
      rw [hx, hy', Bool.and_false, Bool.false_and]
      refine ⟨_, mPo_no hH, fun P => ?_⟩
      simp (discharger := omega) only [↓w274_0, ↓w274_1, ↓w274_2, ↓w274_5, ↓w274_6, ↓w274_7, ↓w274_10, ↓w274_13, ↓w274_14, ↓w274_15, ↓w274_18, ↓w274_21, ↓w274_22, ↓w274_23, ↓w274_24, ↓w274_27, ↓w274_30, ↓w274_31, ↓w274_32, ↓w274_33, ↓w274_36, ↓w274_37, ↓w274_38, ↓w274_39, ↓w274_42, ↓m_isCommand (mM' hM), ↓m_isReplica (mN' hN), hx, hy', bI_t, bI_f, ↓kc_i, ↓kc_l, ↓kc_r, ↓kc_n, rc420, g420_0, p420_0, g420_1, p420_1, g420_2, g420_3, p420_3, g420_4, p420_4, g420_5, p420_5, g420_6, p420_6, g420_7, p420_7, g420_8, p420_8, g420_9, p420_9, g420_10, g420_11, g420_12, g420_13, g420_14, g420_15, g420_16, g420_17, g420_18, g420_19, p420_19, g420_20, g420_21, g420_22, g420_23, g420_24, g420_25, g420_26, g420_27, g420_28, g420_29, g420_30, g420_31, g420_32, p420_32, g420_33, g420_34, g420_35, g420_36, g420_37, g420_38, g420_39, g420_40, g420_41, g420_42, g420_43, g420_44, g420_45, g420_46, g420_47, p420_47, g420_48, g420_49, p420_49, pm_eq, pm_ne, st_pm, st_pmne, rd1, rd2, rd3, rd4, rd5, rd6, rd2s, rd3s, rd4s, rd5s, rd7, rd8, rd9, rd10, rd11, rd0, rdc, wr1, wr2, wr3, wr4, wr5, wr6, wr2s, wr3s, wr4s, wr5s, wr7, wr8, wr9, wr10, wr11, wr0, wrc, st_ne, st_eq, st_st, mul8, mul8', mul4, mul4', nI_add, inT, nclN, ltT, ltF, leT, leF, eqT, eqF, nzF, m1F, m1T, shr, shg, bI0, bI1, bo_bI, bo_1, bo_0, eq10, eq00, frT1, frT2, frT3, fit0, fit1, fit2, fit3, true_and, and_true, ↓reduceIte, Nat.reduceAdd, Nat.reduceMul, and_self, not_false_eq_true, not_true_eq_false, Nat.zero_add, Nat.add_zero, Bool.false_eq_true]
  · have hx' := Bool.eq_false_iff.mpr hx
    rw [hx', Bool.false_and, Bool.false_and]
    refine ⟨_, mPo_no hH, fun P => ?_⟩
    simp (discharger := omega) only [↓w274_0, ↓w274_1, ↓w274_2, ↓w274_5, ↓w274_6, ↓w274_7, ↓w274_10, ↓w274_13, ↓w274_14, ↓w274_15, ↓w274_18, ↓w274_21, ↓w274_22, ↓w274_23, ↓w274_24, ↓w274_27, ↓w274_30, ↓w274_31, ↓w274_32, ↓w274_33, ↓w274_36, ↓w274_37, ↓w274_38, ↓w274_39, ↓w274_42, ↓m_isCommand (mM' hM), ↓m_isReplica (mN' hN), hx', bI_f, ↓kc_i, ↓kc_l, ↓kc_r, ↓kc_n, rc420, g420_0, p420_0, g420_1, p420_1, g420_2, g420_3, p420_3, g420_4, p420_4, g420_5, p420_5, g420_6, p420_6, g420_7, p420_7, g420_8, p420_8, g420_9, p420_9, g420_10, g420_11, g420_12, g420_13, g420_14, g420_15, g420_16, g420_17, g420_18, g420_19, p420_19, g420_20, g420_21, g420_22, g420_23, g420_24, g420_25, g420_26, g420_27, g420_28, g420_29, g420_30, g420_31, g420_32, p420_32, g420_33, g420_34, g420_35, g420_36, g420_37, g420_38, g420_39, g420_40, g420_41, g420_42, g420_43, g420_44, g420_45, g420_46, g420_47, p420_47, g420_48, g420_49, p420_49, pm_eq, pm_ne, st_pm, st_pmne, rd1, rd2, rd3, rd4, rd5, rd6, rd2s, rd3s, rd4s, rd5s, rd7, rd8, rd9, rd10, rd11, rd0, rdc, wr1, wr2, wr3, wr4, wr5, wr6, wr2s, wr3s, wr4s, wr5s, wr7, wr8, wr9, wr10, wr11, wr0, wrc, st_ne, st_eq, st_st, mul8, mul8', mul4, mul4', nI_add, inT, nclN, ltT, ltF, leT, leF, eqT, eqF, nzF, m1F, m1T, shr, shg, bI0, bI1, bo_bI, bo_1, bo_0, eq10, eq00, frT1, frT2, frT3, fit0, fit1, fit2, fit3, true_and, and_true, ↓reduceIte, Nat.reduceAdd, Nat.reduceMul, and_self, not_false_eq_true, not_true_eq_false, Nat.zero_add, Nat.add_zero, Bool.false_eq_true]
theorem m_run (hG : okM I) (hV : okV B (mG I) V) (hBl : B + 1 < 2147483648) (hs : smV (mG I) V0 V) (hH : HiM I (mG I) mn U) (h16 : mn ≤ 16) : ∃ I', mPo I I' mn U V0 (isR (gN (mG I)) x && cnd (mG I) V 7 (0) (x.toNatClampNeg)) ∧ ∀ P, Wp L xs (d+7) 275 0 [some (.ref (420)), some (.int (x))] [] (mk (pm I V) J R Z) P = P (some (.int (if isR (gN (mG I)) x = true then (stp (mG I) V 7 (0) (x.toNatClampNeg)).1 else -1))) (mk (pm I' (if isR (gN (mG I)) x = true then (stp (mG I) V 7 (0) (x.toNatClampNeg)).2 else V)) J R Z) := by
  have hN : I 422 0 = nI (gN (mG I)) := hG.1.1.1
  have hN5 := hG.1.1.2
  have hM : I 422 2 = nI (gM (mG I)) := hG.1.2.1.1
  have h8 := hG.1.2.1.2
  obtain ⟨I2, hk1, hk2, hk⟩ := m_keeps (L := L) (xs := xs) (d := d + 5) (J := J) (R := R) (Z := Z) hs (HiM_T hH) h16
  have e2 : ∀ a, a ≠ 420 → a ≠ 455 → I2 a = I a := fun a h1 h2 => by rw [hk1.1 a h1 h2, st_ne h1]
  have hN2 : I2 422 0 = nI (gN (mG I)) := by rw [e2 _ (by decide) (by decide)]; exact hN
  have hM2 : I2 422 2 = nI (gM (mG I)) := by rw [e2 _ (by decide) (by decide)]; exact hM
  have e457 : I2 457 = I 457 := e2 _ (by decide) (by decide)
  by_cases hx : isR (gN (mG I)) x = true
  · obtain ⟨r, hr, rfl⟩ := isR_t hx (by omega)
    rw [hx, nI_clamp (by omega), Bool.true_and]
    have hr5 : r < 5 := by omega
    have h1 := fun P => m_isUp (L := L) (xs := xs) (I := (st I 420 (upd (I 420) 0 (nI 0)))) (J := J) (R := R) (Z := Z) (P := P) (V := V) (d := d + 5) (r := r) (by omega)
    by_cases hcond : (tb (V 0 0) r) = true
    · have hcn1 : cnd (mG I) V 7 0 r = true := hcond
      rw [hcn1]
      refine ⟨I2, mPo_yes hk1 hk2, fun P => ?_⟩
      show _ = P (some (.int (stX (mG I) V r).1)) (mk (pm I2 (stX (mG I) V r).2) J R Z)
      unfold stX
      simp only [hcond, ↓reduceIte]
      have h2 := fun P => m_runsAll (L := L) (xs := xs) (I := I2) (J := J) (R := R) (Z := Z) (P := P) (V := V) (d := d + 1) (ky := gK (mG I)) hr5 hM2 h8 (fun c hc => by rw [e2 _ (by decide) (by decide), e2 _ (by decide) (by decide)]; exact ⟨hG.1.2.2.2 c hc, hG.2.2 c hc⟩) (okV_R hV hr5)
      rw [e2 424 (by decide) (by decide), e2 426 (by decide) (by decide)] at h2
      simp (discharger := omega) only [↓w275_0, ↓w275_1, ↓w275_2, ↓w275_5, ↓w275_6, ↓w275_7, ↓w275_10, ↓w275_13, ↓w275_14, ↓w275_15, ↓w275_18, ↓w275_21, ↓w275_22, ↓w275_23, ↓w275_24, ↓w275_27, ↓w275_28, ↓w275_29, ↓w275_32, ↓m_isCommand (mM' hM), ↓m_isReplica (mN' hN), hx, ↓h1, ↓hk, ↓h2, hcond, bI_t, ↓kc_i, ↓kc_l, ↓kc_r, ↓kc_n, rc420, g420_0, p420_0, g420_1, p420_1, g420_2, g420_3, p420_3, g420_4, p420_4, g420_5, p420_5, g420_6, p420_6, g420_7, p420_7, g420_8, p420_8, g420_9, p420_9, g420_10, g420_11, g420_12, g420_13, g420_14, g420_15, g420_16, g420_17, g420_18, g420_19, p420_19, g420_20, g420_21, g420_22, g420_23, g420_24, g420_25, g420_26, g420_27, g420_28, g420_29, g420_30, g420_31, g420_32, p420_32, g420_33, g420_34, g420_35, g420_36, g420_37, g420_38, g420_39, g420_40, g420_41, g420_42, g420_43, g420_44, g420_45, g420_46, g420_47, p420_47, g420_48, g420_49, p420_49, gi451, si451, pm_eq, pm_ne, st_pm, st_pmne, rd1, rd2, rd3, rd4, rd5, rd6, rd2s, rd3s, rd4s, rd5s, rd7, rd8, rd9, rd10, rd11, rd0, rdc, wr1, wr2, wr3, wr4, wr5, wr6, wr2s, wr3s, wr4s, wr5s, wr7, wr8, wr9, wr10, wr11, wr0, wrc, st_ne, st_eq, st_st, mul8, mul8', mul4, mul4', nI_add, inT, nclN, ltT, ltF, leT, leF, eqT, eqF, nzF, m1F, m1T, shr, shg, bI0, bI1, bo_bI, bo_1, bo_0, eq10, eq00, frT1, frT2, frT3, fit0, fit1, fit2, fit3, true_and, and_true, ↓reduceIte, Nat.reduceAdd, Nat.reduceMul, and_self, not_false_eq_true, not_true_eq_false, Nat.zero_add, Nat.add_zero, Bool.true_eq_false] <;> rfl
    · have hcf := Bool.eq_false_iff.mpr hcond
      have hcn1 : cnd (mG I) V 7 0 r = false := hcf
      rw [hcn1]
      refine ⟨_, mPo_no hH, fun P => ?_⟩
      show _ = P (some (.int (stX (mG I) V r).1)) (mk (pm _ (stX (mG I) V r).2) J R Z)
      unfold stX
      simp only [hcf, ↓reduceIte, Bool.false_eq_true]
      simp (discharger := omega) only [↓w275_0, ↓w275_1, ↓w275_2, ↓w275_5, ↓w275_6, ↓w275_7, ↓w275_10, ↓w275_13, ↓w275_14, ↓w275_15, ↓w275_18, ↓w275_21, ↓w275_22, ↓w275_23, ↓w275_24, ↓w275_27, ↓w275_28, ↓w275_29, ↓w275_32, ↓m_isCommand (mM' hM), ↓m_isReplica (mN' hN), hx, ↓h1, hcf, bI_t, bI_f, ↓kc_i, ↓kc_l, ↓kc_r, ↓kc_n, rc420, g420_0, p420_0, g420_1, p420_1, g420_2, g420_3, p420_3, g420_4, p420_4, g420_5, p420_5, g420_6, p420_6, g420_7, p420_7, g420_8, p420_8, g420_9, p420_9, g420_10, g420_11, g420_12, g420_13, g420_14, g420_15, g420_16, g420_17, g420_18, g420_19, p420_19, g420_20, g420_21, g420_22, g420_23, g420_24, g420_25, g420_26, g420_27, g420_28, g420_29, g420_30, g420_31, g420_32, p420_32, g420_33, g420_34, g420_35, g420_36, g420_37, g420_38, g420_39, g420_40, g420_41, g420_42, g420_43, g420_44, g420_45, g420_46, g420_47, p420_47, g420_48, g420_49, p420_49, gi451, si451, pm_eq, pm_ne, st_pm, st_pmne, rd1, rd2, rd3, rd4, rd5, rd6, rd2s, rd3s, rd4s, rd5s, rd7, rd8, rd9, rd10, rd11, rd0, rdc, wr1, wr2, wr3, wr4, wr5, wr6, wr2s, wr3s, wr4s, wr5s, wr7, wr8, wr9, wr10, wr11, wr0, wrc, st_ne, st_eq, st_st, mul8, mul8', mul4, mul4', nI_add, inT, nclN, ltT, ltF, leT, leF, eqT, eqF, nzF, m1F, m1T, shr, shg, bI0, bI1, bo_bI, bo_1, bo_0, eq10, eq00, frT1, frT2, frT3, fit0, fit1, fit2, fit3, true_and, and_true, ↓reduceIte, Nat.reduceAdd, Nat.reduceMul, and_self, not_false_eq_true, not_true_eq_false, Nat.zero_add, Nat.add_zero, Bool.true_eq_false] <;> rfl
  · have hx' := Bool.eq_false_iff.mpr hx
    rw [hx', Bool.false_and]
    refine ⟨_, mPo_no hH, fun P => ?_⟩
    simp (discharger := omega) only [↓w275_0, ↓w275_1, ↓w275_2, ↓w275_5, ↓w275_6, ↓w275_7, ↓w275_10, ↓w275_13, ↓w275_14, ↓w275_15, ↓w275_18, ↓w275_21, ↓w275_22, ↓w275_23, ↓w275_24, ↓w275_27, ↓w275_28, ↓w275_29, ↓w275_32, ↓m_isCommand (mM' hM), ↓m_isReplica (mN' hN), hx', bI_f, ↓kc_i, ↓kc_l, ↓kc_r, ↓kc_n, rc420, g420_0, p420_0, g420_1, p420_1, g420_2, g420_3, p420_3, g420_4, p420_4, g420_5, p420_5, g420_6, p420_6, g420_7, p420_7, g420_8, p420_8, g420_9, p420_9, g420_10, g420_11, g420_12, g420_13, g420_14, g420_15, g420_16, g420_17, g420_18, g420_19, p420_19, g420_20, g420_21, g420_22, g420_23, g420_24, g420_25, g420_26, g420_27, g420_28, g420_29, g420_30, g420_31, g420_32, p420_32, g420_33, g420_34, g420_35, g420_36, g420_37, g420_38, g420_39, g420_40, g420_41, g420_42, g420_43, g420_44, g420_45, g420_46, g420_47, p420_47, g420_48, g420_49, p420_49, pm_eq, pm_ne, st_pm, st_pmne, rd1, rd2, rd3, rd4, rd5, rd6, rd2s, rd3s, rd4s, rd5s, rd7, rd8, rd9, rd10, rd11, rd0, rdc, wr1, wr2, wr3, wr4, wr5, wr6, wr2s, wr3s, wr4s, wr5s, wr7, wr8, wr9, wr10, wr11, wr0, wrc, st_ne, st_eq, st_st, mul8, mul8', mul4, mul4', nI_add, inT, nclN, ltT, ltF, leT, leF, eqT, eqF, nzF, m1F, m1T, shr, shg, bI0, bI1, bo_bI, bo_1, bo_0, eq10, eq00, frT1, frT2, frT3, fit0, fit1, fit2, fit3, true_and, and_true, ↓reduceIte, Nat.reduceAdd, Nat.reduceMul, and_self, not_false_eq_true, not_true_eq_false, Nat.zero_add, Nat.add_zero, Bool.false_eq_true]
theorem m_tell (hG : okM I) (hV : okV B (mG I) V) (hBl : B + 1 < 2147483648) (hs : smV (mG I) V0 V) (hH : HiM I (mG I) mn U) (h16 : mn ≤ 16) : ∃ I', mPo I I' mn U V0 ((isR (gM (mG I)) x && isR (gN (mG I)) y) && cnd (mG I) V 5 (x.toNatClampNeg) (y.toNatClampNeg)) ∧ ∀ P, Wp L xs (d+7) 271 0 [some (.ref (420)), some (.int (x)), some (.int (y))] [] (mk (pm I V) J R Z) P = P (some (.int (bI ((isR (gM (mG I)) x && isR (gN (mG I)) y) && cnd (mG I) V 5 (x.toNatClampNeg) (y.toNatClampNeg))))) (mk (pm I' (if (isR (gM (mG I)) x && isR (gN (mG I)) y) = true then (stp (mG I) V 5 (x.toNatClampNeg) (y.toNatClampNeg)).2 else V)) J R Z) := by
  have hN : I 422 0 = nI (gN (mG I)) := hG.1.1.1
  have hN5 := hG.1.1.2
  have hM : I 422 2 = nI (gM (mG I)) := hG.1.2.1.1
  have h8 := hG.1.2.1.2
  obtain ⟨I2, hk1, hk2, hk⟩ := m_keeps (L := L) (xs := xs) (d := d + 5) (J := J) (R := R) (Z := Z) hs (HiM_T hH) h16
  have e2 : ∀ a, a ≠ 420 → a ≠ 455 → I2 a = I a := fun a h1 h2 => by rw [hk1.1 a h1 h2, st_ne h1]
  have hN2 : I2 422 0 = nI (gN (mG I)) := by rw [e2 _ (by decide) (by decide)]; exact hN
  have hM2 : I2 422 2 = nI (gM (mG I)) := by rw [e2 _ (by decide) (by decide)]; exact hM
  have e457 : I2 457 = I 457 := e2 _ (by decide) (by decide)
  by_cases hx : isR (gM (mG I)) x = true
  · by_cases hy : isR (gN (mG I)) y = true
    · obtain ⟨c, hc, rfl⟩ := isR_t hx (by omega)
      obtain ⟨r, hr, rfl⟩ := isR_t hy (by omega)
      rw [hx, hy, nI_clamp (by omega), nI_clamp (by omega), Bool.true_and, Bool.true_and]
      have hc8 : c < 8 := by omega
      have hl : I 427 c = nI (gL (mG I) c) := (hG.1.2.2.1 c hc).1
      have hl5 : gL (mG I) c < 5 := by have := (hG.1.2.2.1 c hc).2; omega
      have hh : V 9 c = nI (hst V c) := (hV.2.2.2.2.2.2.2.2.1.2 c hc).1
      have hh5 : hst V c < 5 := by have : hst V c < gN (mG I) := (hV.2.2.2.2.2.2.2.2.1.2 c hc).2; omega
      have hT := hV.2.1.2.2.1
      have hl2 : I2 427 c = nI (gL (mG I) c) := by rw [e2 _ (by decide) (by decide)]; exact hl
      have hr5 : r < 5 := by omega
      have h1 := fun P => m_canTell (L := L) (xs := xs) (I := (st I 420 (upd (I 420) 0 (nI 0)))) (J := J) (R := R) (Z := Z) (P := P) (V := V) (d := d + 4) hc8 hr5 (mT (by decide) hN) hN5
      have h3 := fun P => m_firstDone (L := L) (xs := xs) (I := I2) (J := J) (R := R) (Z := Z) (P := P) (V := V) (d := d + 5) (x := V 0 0) hc8 hN2 hN5
      rw [fdn_eq hN5 hc8 hT hV.2.1.2.2.2.1] at h1 h3
      cases ht : ff 8 (tb (rW (V 1) c (nI 3) (nI 4) &&& V 0 0)) with
      | none =>
        rw [ht] at h1
        have hcn1 : cnd (mG I) V 5 c r = false := by show ((ff 8 _).isSome && _) = false; rw [ht]; rfl
        rw [hcn1]
        refine ⟨_, mPo_no hH, fun P => ?_⟩
        show _ = P (some (.int (bI false))) (mk (pm _ (stT V c r).2) J R Z)
        unfold stT
        rw [ht]
        simp (discharger := omega) only [↓w271_0, ↓w271_1, ↓w271_2, ↓w271_5, ↓w271_6, ↓w271_7, ↓w271_10, ↓w271_13, ↓w271_14, ↓w271_15, ↓w271_18, ↓w271_21, ↓w271_22, ↓w271_23, ↓w271_24, ↓w271_27, ↓w271_30, ↓w271_31, ↓w271_32, ↓w271_33, ↓w271_36, ↓w271_37, ↓w271_38, ↓w271_39, ↓w271_40, ↓w271_41, ↓w271_42, ↓w271_45, ↓w271_48, ↓w271_49, ↓w271_50, ↓w271_53, ↓w271_56, ↓w271_57, ↓m_isCommand (mM' hM), ↓m_isReplica (mN' hN), hx, hy, ↓h1, bI_t, bI_f, ↓kc_i, ↓kc_l, ↓kc_r, ↓kc_n, rc420, g420_0, p420_0, g420_1, p420_1, g420_2, g420_3, p420_3, g420_4, p420_4, g420_5, p420_5, g420_6, p420_6, g420_7, p420_7, g420_8, p420_8, g420_9, p420_9, g420_10, g420_11, g420_12, g420_13, g420_14, g420_15, g420_16, g420_17, g420_18, g420_19, p420_19, g420_20, g420_21, g420_22, g420_23, g420_24, g420_25, g420_26, g420_27, g420_28, g420_29, g420_30, g420_31, g420_32, p420_32, g420_33, g420_34, g420_35, g420_36, g420_37, g420_38, g420_39, g420_40, g420_41, g420_42, g420_43, g420_44, g420_45, g420_46, g420_47, p420_47, g420_48, g420_49, p420_49, gi451, si451, pm_eq, pm_ne, st_pm, st_pmne, rd1, rd2, rd3, rd4, rd5, rd6, rd2s, rd3s, rd4s, rd5s, rd7, rd8, rd9, rd10, rd11, rd0, rdc, wr1, wr2, wr3, wr4, wr5, wr6, wr2s, wr3s, wr4s, wr5s, wr7, wr8, wr9, wr10, wr11, wr0, wrc, st_ne, st_eq, st_st, mul8, mul8', mul4, mul4', nI_add, inT, nclN, ltT, ltF, leT, leF, eqT, eqF, nzF, m1F, m1T, shr, shg, bI0, bI1, bo_bI, bo_1, bo_0, eq10, eq00, frT1, frT2, frT3, fit0, fit1, fit2, fit3, true_and, and_true, ↓reduceIte, Nat.reduceAdd, Nat.reduceMul, and_self, not_false_eq_true, not_true_eq_false, Nat.zero_add, Nat.add_zero, Option.isSome_none, Bool.and_false, Bool.true_eq_false] <;> rfl
      | some t =>
        have ht5 : t < 5 := by
          have h2' := (ff_some.mp ht).2.1
          rw [tb_and, tb_rW] at h2'
          simp at h2'; exact h2'.1.1
        rw [ht] at h1 h3
        by_cases hcond : (tb (V 0 0) r && decide (V 1 (8 * r + c) < nI 3)) = true
        · have hcn1 : cnd (mG I) V 5 c r = true := by show ((ff 8 _).isSome && _) = true; rw [ht, hcond]; rfl
          rw [hcn1]
          refine ⟨I2, mPo_yes hk1 hk2, fun P => ?_⟩
          show _ = P (some (.int (bI true))) (mk (pm I2 (stT V c r).2) J R Z)
          unfold stT
          rw [ht]
          dsimp only
          rw [if_pos hcond]
          have h2 := fun P => m_takesFrom (L := L) (xs := xs) (I := I2) (J := J) (R := R) (Z := Z) (P := P) (V := V) (d := d + 5) (r := r) (c := c) (o := t) (x := nI 3) (by omega) (by omega)
          rw [Bool.and_eq_true] at hcond
          simp (discharger := omega) only [↓w271_0, ↓w271_1, ↓w271_2, ↓w271_5, ↓w271_6, ↓w271_7, ↓w271_10, ↓w271_13, ↓w271_14, ↓w271_15, ↓w271_18, ↓w271_21, ↓w271_22, ↓w271_23, ↓w271_24, ↓w271_27, ↓w271_30, ↓w271_31, ↓w271_32, ↓w271_33, ↓w271_36, ↓w271_37, ↓w271_38, ↓w271_39, ↓w271_40, ↓w271_41, ↓w271_42, ↓w271_45, ↓w271_48, ↓w271_49, ↓w271_50, ↓w271_53, ↓w271_56, ↓w271_57, ↓m_isCommand (mM' hM), ↓m_isReplica (mN' hN), hx, hy, ↓h1, ↓hk, ↓h3, oN, ↓h2, bI_t, ↓kc_i, ↓kc_l, ↓kc_r, ↓kc_n, rc420, g420_0, p420_0, g420_1, p420_1, g420_2, g420_3, p420_3, g420_4, p420_4, g420_5, p420_5, g420_6, p420_6, g420_7, p420_7, g420_8, p420_8, g420_9, p420_9, g420_10, g420_11, g420_12, g420_13, g420_14, g420_15, g420_16, g420_17, g420_18, g420_19, p420_19, g420_20, g420_21, g420_22, g420_23, g420_24, g420_25, g420_26, g420_27, g420_28, g420_29, g420_30, g420_31, g420_32, p420_32, g420_33, g420_34, g420_35, g420_36, g420_37, g420_38, g420_39, g420_40, g420_41, g420_42, g420_43, g420_44, g420_45, g420_46, g420_47, p420_47, g420_48, g420_49, p420_49, gi451, si451, pm_eq, pm_ne, st_pm, st_pmne, rd1, rd2, rd3, rd4, rd5, rd6, rd2s, rd3s, rd4s, rd5s, rd7, rd8, rd9, rd10, rd11, rd0, rdc, wr1, wr2, wr3, wr4, wr5, wr6, wr2s, wr3s, wr4s, wr5s, wr7, wr8, wr9, wr10, wr11, wr0, wrc, st_ne, st_eq, st_st, mul8, mul8', mul4, mul4', nI_add, inT, nclN, ltT, ltF, leT, leF, eqT, eqF, nzF, m1F, m1T, shr, shg, bI0, bI1, bo_bI, bo_1, bo_0, eq10, eq00, frT1, frT2, frT3, fit0, fit1, fit2, fit3, true_and, and_true, ↓reduceIte, Nat.reduceAdd, Nat.reduceMul, and_self, not_false_eq_true, not_true_eq_false, Nat.zero_add, Nat.add_zero, Option.isSome_some, hcond.1, hcond.2, Bool.and_true, Bool.true_eq_false] <;> rfl
        · have hcf := Bool.eq_false_iff.mpr hcond
          have hcn1 : cnd (mG I) V 5 c r = false := by show ((ff 8 _).isSome && _) = false; rw [hcf]; simp
          rw [hcn1]
          refine ⟨_, mPo_no hH, fun P => ?_⟩
          show _ = P (some (.int (bI false))) (mk (pm _ (stT V c r).2) J R Z)
          unfold stT
          rw [ht]
          dsimp only
          rw [if_neg hcond]
          have hcf2 : (tb (V 0 0) r && (decide (V 1 (8 * r + c) < nI 3) && (some t).isSome)) = false := by rw [← Bool.and_assoc, hcf]; rfl
          simp (discharger := omega) only [↓w271_0, ↓w271_1, ↓w271_2, ↓w271_5, ↓w271_6, ↓w271_7, ↓w271_10, ↓w271_13, ↓w271_14, ↓w271_15, ↓w271_18, ↓w271_21, ↓w271_22, ↓w271_23, ↓w271_24, ↓w271_27, ↓w271_30, ↓w271_31, ↓w271_32, ↓w271_33, ↓w271_36, ↓w271_37, ↓w271_38, ↓w271_39, ↓w271_40, ↓w271_41, ↓w271_42, ↓w271_45, ↓w271_48, ↓w271_49, ↓w271_50, ↓w271_53, ↓w271_56, ↓w271_57, ↓m_isCommand (mM' hM), ↓m_isReplica (mN' hN), hx, hy, ↓h1, hcf2, bI_t, bI_f, ↓kc_i, ↓kc_l, ↓kc_r, ↓kc_n, rc420, g420_0, p420_0, g420_1, p420_1, g420_2, g420_3, p420_3, g420_4, p420_4, g420_5, p420_5, g420_6, p420_6, g420_7, p420_7, g420_8, p420_8, g420_9, p420_9, g420_10, g420_11, g420_12, g420_13, g420_14, g420_15, g420_16, g420_17, g420_18, g420_19, p420_19, g420_20, g420_21, g420_22, g420_23, g420_24, g420_25, g420_26, g420_27, g420_28, g420_29, g420_30, g420_31, g420_32, p420_32, g420_33, g420_34, g420_35, g420_36, g420_37, g420_38, g420_39, g420_40, g420_41, g420_42, g420_43, g420_44, g420_45, g420_46, g420_47, p420_47, g420_48, g420_49, p420_49, gi451, si451, pm_eq, pm_ne, st_pm, st_pmne, rd1, rd2, rd3, rd4, rd5, rd6, rd2s, rd3s, rd4s, rd5s, rd7, rd8, rd9, rd10, rd11, rd0, rdc, wr1, wr2, wr3, wr4, wr5, wr6, wr2s, wr3s, wr4s, wr5s, wr7, wr8, wr9, wr10, wr11, wr0, wrc, st_ne, st_eq, st_st, mul8, mul8', mul4, mul4', nI_add, inT, nclN, ltT, ltF, leT, leF, eqT, eqF, nzF, m1F, m1T, shr, shg, bI0, bI1, bo_bI, bo_1, bo_0, eq10, eq00, frT1, frT2, frT3, fit0, fit1, fit2, fit3, true_and, and_true, ↓reduceIte, Nat.reduceAdd, Nat.reduceMul, and_self, not_false_eq_true, not_true_eq_false, Nat.zero_add, Nat.add_zero, Bool.true_eq_false] <;> rfl
    · have hy' := Bool.eq_false_iff.mpr hy
      rw [hx, hy', Bool.and_false, Bool.false_and]
      refine ⟨_, mPo_no hH, fun P => ?_⟩
      simp (discharger := omega) only [↓w271_0, ↓w271_1, ↓w271_2, ↓w271_5, ↓w271_6, ↓w271_7, ↓w271_10, ↓w271_13, ↓w271_14, ↓w271_15, ↓w271_18, ↓w271_21, ↓w271_22, ↓w271_23, ↓w271_24, ↓w271_27, ↓w271_30, ↓w271_31, ↓w271_32, ↓w271_33, ↓w271_36, ↓w271_37, ↓w271_38, ↓w271_39, ↓w271_40, ↓w271_41, ↓w271_42, ↓w271_45, ↓w271_48, ↓w271_49, ↓w271_50, ↓w271_53, ↓w271_56, ↓w271_57, ↓m_isCommand (mM' hM), ↓m_isReplica (mN' hN), hx, hy', bI_t, bI_f, ↓kc_i, ↓kc_l, ↓kc_r, ↓kc_n, rc420, g420_0, p420_0, g420_1, p420_1, g420_2, g420_3, p420_3, g420_4, p420_4, g420_5, p420_5, g420_6, p420_6, g420_7, p420_7, g420_8, p420_8, g420_9, p420_9, g420_10, g420_11, g420_12, g420_13, g420_14, g420_15, g420_16, g420_17, g420_18, g420_19, p420_19, g420_20, g420_21, g420_22, g420_23, g420_24, g420_25, g420_26, g420_27, g420_28, g420_29, g420_30, g420_31, g420_32, p420_32, g420_33, g420_34, g420_35, g420_36, g420_37, g420_38, g420_39, g420_40, g420_41, g420_42, g420_43, g420_44, g420_45, g420_46, g420_47, p420_47, g420_48, g420_49, p420_49, pm_eq, pm_ne, st_pm, st_pmne, rd1, rd2, rd3, rd4, rd5, rd6, rd2s, rd3s, rd4s, rd5s, rd7, rd8, rd9, rd10, rd11, rd0, rdc, wr1, wr2, wr3, wr4, wr5, wr6, wr2s, wr3s, wr4s, wr5s, wr7, wr8, wr9, wr10, wr11, wr0, wrc, st_ne, st_eq, st_st, mul8, mul8', mul4, mul4', nI_add, inT, nclN, ltT, ltF, leT, leF, eqT, eqF, nzF, m1F, m1T, shr, shg, bI0, bI1, bo_bI, bo_1, bo_0, eq10, eq00, frT1, frT2, frT3, fit0, fit1, fit2, fit3, true_and, and_true, ↓reduceIte, Nat.reduceAdd, Nat.reduceMul, and_self, not_false_eq_true, not_true_eq_false, Nat.zero_add, Nat.add_zero, Bool.false_eq_true]
  · have hx' := Bool.eq_false_iff.mpr hx
    rw [hx', Bool.false_and, Bool.false_and]
    refine ⟨_, mPo_no hH, fun P => ?_⟩
    simp (discharger := omega) only [↓w271_0, ↓w271_1, ↓w271_2, ↓w271_5, ↓w271_6, ↓w271_7, ↓w271_10, ↓w271_13, ↓w271_14, ↓w271_15, ↓w271_18, ↓w271_21, ↓w271_22, ↓w271_23, ↓w271_24, ↓w271_27, ↓w271_30, ↓w271_31, ↓w271_32, ↓w271_33, ↓w271_36, ↓w271_37, ↓w271_38, ↓w271_39, ↓w271_40, ↓w271_41, ↓w271_42, ↓w271_45, ↓w271_48, ↓w271_49, ↓w271_50, ↓w271_53, ↓w271_56, ↓w271_57, ↓m_isCommand (mM' hM), ↓m_isReplica (mN' hN), hx', bI_f, ↓kc_i, ↓kc_l, ↓kc_r, ↓kc_n, rc420, g420_0, p420_0, g420_1, p420_1, g420_2, g420_3, p420_3, g420_4, p420_4, g420_5, p420_5, g420_6, p420_6, g420_7, p420_7, g420_8, p420_8, g420_9, p420_9, g420_10, g420_11, g420_12, g420_13, g420_14, g420_15, g420_16, g420_17, g420_18, g420_19, p420_19, g420_20, g420_21, g420_22, g420_23, g420_24, g420_25, g420_26, g420_27, g420_28, g420_29, g420_30, g420_31, g420_32, p420_32, g420_33, g420_34, g420_35, g420_36, g420_37, g420_38, g420_39, g420_40, g420_41, g420_42, g420_43, g420_44, g420_45, g420_46, g420_47, p420_47, g420_48, g420_49, p420_49, pm_eq, pm_ne, st_pm, st_pmne, rd1, rd2, rd3, rd4, rd5, rd6, rd2s, rd3s, rd4s, rd5s, rd7, rd8, rd9, rd10, rd11, rd0, rdc, wr1, wr2, wr3, wr4, wr5, wr6, wr2s, wr3s, wr4s, wr5s, wr7, wr8, wr9, wr10, wr11, wr0, wrc, st_ne, st_eq, st_st, mul8, mul8', mul4, mul4', nI_add, inT, nclN, ltT, ltF, leT, leF, eqT, eqF, nzF, m1F, m1T, shr, shg, bI0, bI1, bo_bI, bo_1, bo_0, eq10, eq00, frT1, frT2, frT3, fit0, fit1, fit2, fit3, true_and, and_true, ↓reduceIte, Nat.reduceAdd, Nat.reduceMul, and_self, not_false_eq_true, not_true_eq_false, Nat.zero_add, Nat.add_zero, Bool.false_eq_true]
theorem m_up (hG : okM I) (hV : okV B (mG I) V) (hBl : B + 1 < 2147483648) (hs : smV (mG I) V0 V) (hH : HiM I (mG I) mn U) (h16 : mn ≤ 16) : ∃ I', mPo I I' mn U V0 (isR (gN (mG I)) x && cnd (mG I) V 9 (0) (x.toNatClampNeg)) ∧ ∀ P, Wp L xs (d+7) 273 0 [some (.ref (420)), some (.int (x))] [] (mk (pm I V) J R Z) P = P (some (.int (bI (isR (gN (mG I)) x && cnd (mG I) V 9 (0) (x.toNatClampNeg))))) (mk (pm I' (if isR (gN (mG I)) x = true then (stp (mG I) V 9 (0) (x.toNatClampNeg)).2 else V)) J R Z) := by
  have hN : I 422 0 = nI (gN (mG I)) := hG.1.1.1
  have hN5 := hG.1.1.2
  have hM : I 422 2 = nI (gM (mG I)) := hG.1.2.1.1
  have h8 := hG.1.2.1.2
  obtain ⟨I2, hk1, hk2, hk⟩ := m_keeps (L := L) (xs := xs) (d := d + 5) (J := J) (R := R) (Z := Z) hs (HiM_T hH) h16
  have e2 : ∀ a, a ≠ 420 → a ≠ 455 → I2 a = I a := fun a h1 h2 => by rw [hk1.1 a h1 h2, st_ne h1]
  have hN2 : I2 422 0 = nI (gN (mG I)) := by rw [e2 _ (by decide) (by decide)]; exact hN
  have hM2 : I2 422 2 = nI (gM (mG I)) := by rw [e2 _ (by decide) (by decide)]; exact hM
  have e457 : I2 457 = I 457 := e2 _ (by decide) (by decide)
  by_cases hx : isR (gN (mG I)) x = true
  · obtain ⟨r, hr, rfl⟩ := isR_t hx (by omega)
    rw [hx, nI_clamp (by omega), Bool.true_and]
    have h1 := fun P => m_isUp (L := L) (xs := xs) (I := (st I 420 (upd (I 420) 0 (nI 0)))) (J := J) (R := R) (Z := Z) (P := P) (V := V) (d := d + 5) (r := r) (by omega)
    by_cases hcond : tb (V 0 0) r = false
    · have hcn1 : cnd (mG I) V 9 0 r = true := by show (!tb (V 0 0) r) = true; rw [hcond]; rfl
      rw [hcn1]
      refine ⟨I2, mPo_yes hk1 hk2, fun P => ?_⟩
      show _ = P (some (.int (bI true))) (mk (pm I2 (stU V r false).2) J R Z)
      unfold stU
      rw [if_pos hcond]
      simp (discharger := omega) only [↓w273_0, ↓w273_1, ↓w273_2, ↓w273_5, ↓w273_6, ↓w273_7, ↓w273_10, ↓w273_13, ↓w273_14, ↓w273_15, ↓w273_18, ↓w273_21, ↓w273_22, ↓w273_23, ↓w273_24, ↓w273_27, ↓w273_28, ↓w273_31, ↓w273_34, ↓w273_35, ↓w273_36, ↓w273_37, ↓w273_38, ↓w273_39, ↓w273_40, ↓w273_41, ↓w273_42, ↓m_isCommand (mM' hM), ↓m_isReplica (mN' hN), hx, ↓h1, ↓hk, hcond, bI_t, bI_f, ↓kc_i, ↓kc_l, ↓kc_r, ↓kc_n, rc420, g420_0, p420_0, g420_1, p420_1, g420_2, g420_3, p420_3, g420_4, p420_4, g420_5, p420_5, g420_6, p420_6, g420_7, p420_7, g420_8, p420_8, g420_9, p420_9, g420_10, g420_11, g420_12, g420_13, g420_14, g420_15, g420_16, g420_17, g420_18, g420_19, p420_19, g420_20, g420_21, g420_22, g420_23, g420_24, g420_25, g420_26, g420_27, g420_28, g420_29, g420_30, g420_31, g420_32, p420_32, g420_33, g420_34, g420_35, g420_36, g420_37, g420_38, g420_39, g420_40, g420_41, g420_42, g420_43, g420_44, g420_45, g420_46, g420_47, p420_47, g420_48, g420_49, p420_49, gi451, si451, pm_eq, pm_ne, st_pm, st_pmne, rd1, rd2, rd3, rd4, rd5, rd6, rd2s, rd3s, rd4s, rd5s, rd7, rd8, rd9, rd10, rd11, rd0, rdc, wr1, wr2, wr3, wr4, wr5, wr6, wr2s, wr3s, wr4s, wr5s, wr7, wr8, wr9, wr10, wr11, wr0, wrc, st_ne, st_eq, st_st, mul8, mul8', mul4, mul4', nI_add, inT, nclN, ltT, ltF, leT, leF, eqT, eqF, nzF, m1F, m1T, shr, shg, bI0, bI1, bo_bI, bo_1, bo_0, eq10, eq00, frT1, frT2, frT3, fit0, fit1, fit2, fit3, true_and, and_true, ↓reduceIte, Nat.reduceAdd, Nat.reduceMul, and_self, not_false_eq_true, not_true_eq_false, Nat.zero_add, Nat.add_zero, Bool.true_eq_false] <;> rfl
    · have hcf : tb (V 0 0) r = true := by simpa using hcond
      have hcn1 : cnd (mG I) V 9 0 r = false := by show (!tb (V 0 0) r) = false; rw [hcf]; rfl
      rw [hcn1]
      refine ⟨_, mPo_no hH, fun P => ?_⟩
      show _ = P (some (.int (bI false))) (mk (pm _ (stU V r false).2) J R Z)
      unfold stU
      rw [if_neg hcond]
      simp (discharger := omega) only [↓w273_0, ↓w273_1, ↓w273_2, ↓w273_5, ↓w273_6, ↓w273_7, ↓w273_10, ↓w273_13, ↓w273_14, ↓w273_15, ↓w273_18, ↓w273_21, ↓w273_22, ↓w273_23, ↓w273_24, ↓w273_27, ↓w273_28, ↓w273_31, ↓w273_34, ↓w273_35, ↓w273_36, ↓w273_37, ↓w273_38, ↓w273_39, ↓w273_40, ↓w273_41, ↓w273_42, ↓m_isCommand (mM' hM), ↓m_isReplica (mN' hN), hx, ↓h1, hcf, bI_t, bI_f, ↓kc_i, ↓kc_l, ↓kc_r, ↓kc_n, rc420, g420_0, p420_0, g420_1, p420_1, g420_2, g420_3, p420_3, g420_4, p420_4, g420_5, p420_5, g420_6, p420_6, g420_7, p420_7, g420_8, p420_8, g420_9, p420_9, g420_10, g420_11, g420_12, g420_13, g420_14, g420_15, g420_16, g420_17, g420_18, g420_19, p420_19, g420_20, g420_21, g420_22, g420_23, g420_24, g420_25, g420_26, g420_27, g420_28, g420_29, g420_30, g420_31, g420_32, p420_32, g420_33, g420_34, g420_35, g420_36, g420_37, g420_38, g420_39, g420_40, g420_41, g420_42, g420_43, g420_44, g420_45, g420_46, g420_47, p420_47, g420_48, g420_49, p420_49, gi451, si451, pm_eq, pm_ne, st_pm, st_pmne, rd1, rd2, rd3, rd4, rd5, rd6, rd2s, rd3s, rd4s, rd5s, rd7, rd8, rd9, rd10, rd11, rd0, rdc, wr1, wr2, wr3, wr4, wr5, wr6, wr2s, wr3s, wr4s, wr5s, wr7, wr8, wr9, wr10, wr11, wr0, wrc, st_ne, st_eq, st_st, mul8, mul8', mul4, mul4', nI_add, inT, nclN, ltT, ltF, leT, leF, eqT, eqF, nzF, m1F, m1T, shr, shg, bI0, bI1, bo_bI, bo_1, bo_0, eq10, eq00, frT1, frT2, frT3, fit0, fit1, fit2, fit3, true_and, and_true, ↓reduceIte, Nat.reduceAdd, Nat.reduceMul, and_self, not_false_eq_true, not_true_eq_false, Nat.zero_add, Nat.add_zero, Bool.true_eq_false] <;> rfl
  · have hx' := Bool.eq_false_iff.mpr hx
    rw [hx', Bool.false_and]
    refine ⟨_, mPo_no hH, fun P => ?_⟩
    simp (discharger := omega) only [↓w273_0, ↓w273_1, ↓w273_2, ↓w273_5, ↓w273_6, ↓w273_7, ↓w273_10, ↓w273_13, ↓w273_14, ↓w273_15, ↓w273_18, ↓w273_21, ↓w273_22, ↓w273_23, ↓w273_24, ↓w273_27, ↓w273_28, ↓w273_31, ↓w273_34, ↓w273_35, ↓w273_36, ↓w273_37, ↓w273_38, ↓w273_39, ↓w273_40, ↓w273_41, ↓w273_42, ↓m_isCommand (mM' hM), ↓m_isReplica (mN' hN), hx', bI_f, ↓kc_i, ↓kc_l, ↓kc_r, ↓kc_n, rc420, g420_0, p420_0, g420_1, p420_1, g420_2, g420_3, p420_3, g420_4, p420_4, g420_5, p420_5, g420_6, p420_6, g420_7, p420_7, g420_8, p420_8, g420_9, p420_9, g420_10, g420_11, g420_12, g420_13, g420_14, g420_15, g420_16, g420_17, g420_18, g420_19, p420_19, g420_20, g420_21, g420_22, g420_23, g420_24, g420_25, g420_26, g420_27, g420_28, g420_29, g420_30, g420_31, g420_32, p420_32, g420_33, g420_34, g420_35, g420_36, g420_37, g420_38, g420_39, g420_40, g420_41, g420_42, g420_43, g420_44, g420_45, g420_46, g420_47, p420_47, g420_48, g420_49, p420_49, pm_eq, pm_ne, st_pm, st_pmne, rd1, rd2, rd3, rd4, rd5, rd6, rd2s, rd3s, rd4s, rd5s, rd7, rd8, rd9, rd10, rd11, rd0, rdc, wr1, wr2, wr3, wr4, wr5, wr6, wr2s, wr3s, wr4s, wr5s, wr7, wr8, wr9, wr10, wr11, wr0, wrc, st_ne, st_eq, st_st, mul8, mul8', mul4, mul4', nI_add, inT, nclN, ltT, ltF, leT, leF, eqT, eqF, nzF, m1F, m1T, shr, shg, bI0, bI1, bo_bI, bo_1, bo_0, eq10, eq00, frT1, frT2, frT3, fit0, fit1, fit2, fit3, true_and, and_true, ↓reduceIte, Nat.reduceAdd, Nat.reduceMul, and_self, not_false_eq_true, not_true_eq_false, Nat.zero_add, Nat.add_zero, Bool.false_eq_true]
theorem m_clean (hG : okM I) (hV : okV B (mG I) V) (hBl : B + 1 < 2147483648) (hs : smV (mG I) V0 V) (hH : HiM I (mG I) mn U) (h16 : mn ≤ 16) : ∃ I', mPo I I' mn U V0 true ∧ ∀ P, Wp L xs (d+7) 276 0 [some (.ref (420))] [] (mk (pm I V) J R Z) P = P (some (.int (stp (mG I) V 10 0 0).1)) (mk (pm I' (stp (mG I) V 10 0 0).2) J R Z) := by
  have hN : I 422 0 = nI (gN (mG I)) := hG.1.1.1
  have hN5 := hG.1.1.2
  have hM : I 422 2 = nI (gM (mG I)) := hG.1.2.1.1
  have h8 := hG.1.2.1.2
  obtain ⟨I2, hk1, hk2, hk⟩ := m_keeps (L := L) (xs := xs) (d := d + 5) (J := J) (R := R) (Z := Z) hs (HiM_T hH) h16
  have e2 : ∀ a, a ≠ 420 → a ≠ 455 → I2 a = I a := fun a h1 h2 => by rw [hk1.1 a h1 h2, st_ne h1]
  have hN2 : I2 422 0 = nI (gN (mG I)) := by rw [e2 _ (by decide) (by decide)]; exact hN
  have hM2 : I2 422 2 = nI (gM (mG I)) := by rw [e2 _ (by decide) (by decide)]; exact hM
  have h2 := fun P => m_cleans (L := L) (xs := xs) (I := I2) (J := J) (R := R) (Z := Z) (P := P) (V := V) (d := d + 2) hN2 hN5 hM2 h8
  rw [e2 427 (by decide) (by decide), clnd_q hN5 h8 hV.2.1.2.2.2.1] at h2
  refine ⟨I2, mPo_yes hk1 hk2, fun P => ?_⟩
  show _ = P (some (.int (stL (mG I) V).1)) (mk (pm I2 (stL (mG I) V).2) J R Z)
  unfold stL
  dsimp only
  rw [← pcn_sub (clnd_ge)]
  simp (discharger := omega) only [↓w276_0, ↓w276_1, ↓w276_2, ↓w276_5, ↓w276_6, ↓w276_9, ↓w276_10, ↓w276_13, ↓hk, ↓h2, ↓kc_i, ↓kc_l, ↓kc_r, ↓kc_n, rc420, g420_0, p420_0, g420_1, p420_1, g420_2, g420_3, p420_3, g420_4, p420_4, g420_5, p420_5, g420_6, p420_6, g420_7, p420_7, g420_8, p420_8, g420_9, p420_9, g420_10, g420_11, g420_12, g420_13, g420_14, g420_15, g420_16, g420_17, g420_18, g420_19, p420_19, g420_20, g420_21, g420_22, g420_23, g420_24, g420_25, g420_26, g420_27, g420_28, g420_29, g420_30, g420_31, g420_32, p420_32, g420_33, g420_34, g420_35, g420_36, g420_37, g420_38, g420_39, g420_40, g420_41, g420_42, g420_43, g420_44, g420_45, g420_46, g420_47, p420_47, g420_48, g420_49, p420_49, pm_eq, pm_ne, st_pm, st_pmne, rd1, rd2, rd3, rd4, rd5, rd6, rd2s, rd3s, rd4s, rd5s, rd7, rd8, rd9, rd10, rd11, rd0, rdc, wr1, wr2, wr3, wr4, wr5, wr6, wr2s, wr3s, wr4s, wr5s, wr7, wr8, wr9, wr10, wr11, wr0, wrc, st_ne, st_eq, st_st, mul8, mul8', mul4, mul4', nI_add, inT, nclN, ltT, ltF, leT, leF, eqT, eqF, nzF, m1F, m1T, shr, shg, bI0, bI1, bo_bI, bo_1, bo_0, eq10, eq00, frT1, frT2, frT3, fit0, fit1, fit2, fit3, true_and, and_true, ↓reduceIte, Nat.reduceAdd, Nat.reduceMul, and_self, not_false_eq_true, not_true_eq_false, Nat.zero_add, Nat.add_zero] <;> rfl
theorem m_undo (hH : HiM I (mG I) mn U) (h16 : mn ≤ 16) : if mn = 0 then (∀ P, Wp L xs (d+1) 277 0 [some (.ref (420))] [] (mk (pm I V) J R Z) P = P (some (.int (nI 0))) (mk (pm (st I 420 (upd (I 420) 0 (nI 0))) V) J R Z)) else ∃ I' W, smV (mG I) (U (mn - 1)) W ∧ mPo I I' (mn - 1) U V0 false ∧ ∀ P, Wp L xs (d+1) 277 0 [some (.ref (420))] [] (mk (pm I V) J R Z) P = P (some (.int (nI 1))) (mk (pm I' W) J R Z) := by
  obtain ⟨hd, hu⟩ := id hH
  have hd0 : upd (I 420) 0 (nI 0) 47 = nI mn := by rw [upd_ne (by decide)]; exact hd
  by_cases h0 : mn = 0
  · rw [if_pos h0]
    intro P
    subst h0
    simp (discharger := omega) only [↓w277_0, ↓w277_1, ↓w277_2, ↓w277_5, ↓w277_6, ↓w277_9, ↓w277_12, ↓w277_13, ↓w277_14, ↓w277_15, ↓w277_16, ↓w277_19, ↓w277_20, ↓w277_21, ↓w277_24, ↓w277_25, ↓w277_28, ↓w277_31, ↓w277_32, ↓w277_35, ↓w277_36, ↓w277_37, ↓w277_40, ↓w277_41, ↓w277_44, ↓w277_45, hd0, rc420, g420_0, p420_0, g420_1, p420_1, g420_2, g420_3, p420_3, g420_4, p420_4, g420_5, p420_5, g420_6, p420_6, g420_7, p420_7, g420_8, p420_8, g420_9, p420_9, g420_10, g420_11, g420_12, g420_13, g420_14, g420_15, g420_16, g420_17, g420_18, g420_19, p420_19, g420_20, g420_21, g420_22, g420_23, g420_24, g420_25, g420_26, g420_27, g420_28, g420_29, g420_30, g420_31, g420_32, p420_32, g420_33, g420_34, g420_35, g420_36, g420_37, g420_38, g420_39, g420_40, g420_41, g420_42, g420_43, g420_44, g420_45, g420_46, g420_47, p420_47, g420_48, g420_49, p420_49, pm_eq, pm_ne, st_pm, st_pmne, rd1, rd2, rd3, rd4, rd5, rd6, rd2s, rd3s, rd4s, rd5s, rd7, rd8, rd9, rd10, rd11, rd0, rdc, wr1, wr2, wr3, wr4, wr5, wr6, wr2s, wr3s, wr4s, wr5s, wr7, wr8, wr9, wr10, wr11, wr0, wrc, st_ne, st_eq, st_st, mul8, mul8', mul4, mul4', nI_add, inT, nclN, ltT, ltF, leT, leF, eqT, eqF, nzF, m1F, m1T, shr, shg, bI0, bI1, bo_bI, bo_1, bo_0, eq10, eq00, frT1, frT2, frT3, fit0, fit1, fit2, fit3, true_and, and_true, ↓reduceIte, Nat.reduceAdd, Nat.reduceMul, and_self, not_false_eq_true, not_true_eq_false, Nat.zero_add, Nat.add_zero]
  · rw [if_neg h0]
    obtain ⟨W, q1, q3⟩ := hu (mn - 1) (by omega)
    refine ⟨st I 420 (upd (upd (I 420) 0 (nI 0)) 47 (nI (mn - 1))), W, q1, ⟨fun a h1 _ => st_ne h1, fun k h1 h2 => by rw [st_eq, upd_ne h1, upd_ne h2], by rw [st_eq, upd_ne (by decide), upd_eq], ?_⟩, fun P => ?_⟩
    · simp only [Bool.false_eq_true, ↓reduceIte]
      refine ⟨by rw [st_eq, upd_eq], fun i hi => ?_⟩
      rw [st_ne (by decide)]
      exact hu i (by omega)
    · have e291 : nI 291 * nI (mn - 1) = nI (291 * (mn - 1)) := pk_mul _ _
      have e1 : nI mn - nI 1 = nI (mn - 1) := pk_sub (by omega)
      have hcp := fun P => m_copies (L := L) (xs := xs) (d := d) (P := P) (I := pm (st I 420 (upd (upd (I 420) 0 (nI 0)) 47 (nI (mn - 1)))) V) (J := J) (R := R) (Z := Z) (fa := 455) (ta := 451) (nf := 4656) (nt := 291) (a := 291 * (mn - 1)) (b := 0) (by decide) rfl (by decide) rfl (by decide) (by omega) (by decide) (by decide) (by decide)
      rw [pm_eq, pm_ne (by decide), st_ne (by decide), cpy_from q3, st_pm] at hcp
      simp (discharger := omega) only [↓w277_0, ↓w277_1, ↓w277_2, ↓w277_5, ↓w277_6, ↓w277_9, ↓w277_12, ↓w277_13, ↓w277_14, ↓w277_15, ↓w277_16, ↓w277_19, ↓w277_20, ↓w277_21, ↓w277_24, ↓w277_25, ↓w277_28, ↓w277_31, ↓w277_32, ↓w277_35, ↓w277_36, ↓w277_37, ↓w277_40, ↓w277_41, ↓w277_44, ↓w277_45, hd0, e1, e291, ↓hcp, ↓kc_i, ↓kc_l, ↓kc_r, ↓kc_n, rc420, g420_0, p420_0, g420_1, p420_1, g420_2, g420_3, p420_3, g420_4, p420_4, g420_5, p420_5, g420_6, p420_6, g420_7, p420_7, g420_8, p420_8, g420_9, p420_9, g420_10, g420_11, g420_12, g420_13, g420_14, g420_15, g420_16, g420_17, g420_18, g420_19, p420_19, g420_20, g420_21, g420_22, g420_23, g420_24, g420_25, g420_26, g420_27, g420_28, g420_29, g420_30, g420_31, g420_32, p420_32, g420_33, g420_34, g420_35, g420_36, g420_37, g420_38, g420_39, g420_40, g420_41, g420_42, g420_43, g420_44, g420_45, g420_46, g420_47, p420_47, g420_48, g420_49, p420_49, pm_eq, pm_ne, st_pm, st_pmne, rd1, rd2, rd3, rd4, rd5, rd6, rd2s, rd3s, rd4s, rd5s, rd7, rd8, rd9, rd10, rd11, rd0, rdc, wr1, wr2, wr3, wr4, wr5, wr6, wr2s, wr3s, wr4s, wr5s, wr7, wr8, wr9, wr10, wr11, wr0, wrc, st_ne, st_eq, st_st, upd_eq, mul8, mul8', mul4, mul4', nI_add, inT, nclN, ltT, ltF, leT, leF, eqT, eqF, nzF, m1F, m1T, shr, shg, bI0, bI1, bo_bI, bo_1, bo_0, eq10, eq00, frT1, frT2, frT3, fit0, fit1, fit2, fit3, true_and, and_true, ↓reduceIte, Nat.reduceAdd, Nat.reduceMul, and_self, not_false_eq_true, not_true_eq_false, Nat.zero_add, Nat.add_zero]
end E9
