def agA (G : Gv) (V : Vw) (r o : Nat) : Bool := agr (gM G) (G 5) (V 1) (V 6) (pcn (rn (V 1) r)) (pcn (rn (V 1) o)) r o
def qua (G : Gv) (V : Vw) : Nat := lp (fun r a => lp (fun k a => if agA G V r (r + 1 + k) = true then a else a + 1) (gN G - (r + 1)) a) (gN G) 0
def vDri (G : Gv) (V : Vw) (x y z : Int32) : Int32 := if (inr x (nI 0) (nI 9999) && (inr y (nI 1) (nI 99) && inr z (nI 0) (nI 2))) = true then (fun q : Dq => if z = nI 0 then nI q.2.2 else if z = nI 1 then rIA q.1 else nI (qua G q.1)) (dA G V x.toNatClampNeg y.toNatClampNeg) else -1
section F4
variable {L : Nat} {xs : Nat → Int32} {d : Nat} {P : Option Value → Hp → Prop} {I : Mi} {J : Mj} {R : Mr} {Z : Mz} {r c r' c' k l N M o n m B a b t w nx mn s sd : Nat} {x y z : Int32} {V V' V0 W0 W : Vw} {f f1 f4 g : Nat → Int32} {G G' : Gv} {U : Uq} {Q : Wq} {h : Hp}
theorem k_quarrels (hG : okG (gI I)) (hV : okV B (gI I) V) (hT : ∀ j, j < 12 → I (114 + j) = V j) : Wp L xs (d+4) 168 0 [some (.ref (64)), none, none, none] [] (mk I J R Z) P = P (some (.int (nI (qua (gI I) V)))) (mk I J R Z) := by
  have hN : I 76 0 = nI (gN (gI I)) := hG.1.1
  have hM : I 76 2 = nI (gM (gI I)) := hG.2.1.1
  have h5 := hG.1.2
  have h8 := hG.2.1.2
  have e1 : I 115 = V 1 := hT 1 (by decide)
  have e6 : I 120 = V 6 := hT 6 (by decide)
  have hag : ∀ r o, r < 5 → o < 5 → ∀ P, Wp L xs (d+3) 84 0 [some (.ref (126)), some (.ref (114)), some (.int (nI r)), some (.int (nI o)), none, none, none, none] [] (mk I J R Z) P = P (some (.int (bI (agA (gI I) V r o)))) (mk I J R Z) := fun r o hr ho P => by
    have n1 : I (114 + 7) r = nI (pcn (rn (V 1) r)) := by rw [hT 7 (by decide)]; exact hV.2.1.2.2.2.2.2 r hr
    have n2 : I (114 + 7) o = nI (pcn (rn (V 1) o)) := by rw [hT 7 (by decide)]; exact hV.2.1.2.2.2.2.2 o ho
    rw [k_isAgreed isS_114 hr ho hM h8 n1 pcn_le n2 pcn_le, hT 1 (by decide), hT 6 (by decide)]
    rfl
  simp (discharger := omega) only [↓w168_0, ↓w168_1, ↓w168_2, ↓w168_3, ↓w168_5, ↓w168_6, ↓w168_9, ↓w168_12, ↓w168_15, ↓w168_16, ↓w168_17, ↓w168_18, ↓w168_20, ↓w168_21, ↓w168_24, ↓w168_27, ↓w168_30, ↓w168_31, ↓w168_34, ↓w168_35, ↓w168_38, ↓w168_39, ↓w168_40, ↓w168_43, ↓w168_46, ↓w168_49, ↓w168_52, ↓w168_55, ↓w168_58, ↓w168_61, ↓w168_62, mul8, mul8', mul4, mul4', nI_add, inT, nclN, ltT, ltF, leT, leF, eqT, eqF, nzF, m1F, m1T, shr, shg, bI0, bI1, bo_bI, bo_1, bo_0, eq10, eq00, frT1, frT2, frT3, fit0, fit1, fit2, fit3, true_and, and_true, ↓reduceIte, Nat.reduceAdd, Nat.reduceMul, and_self, not_false_eq_true, not_true_eq_false, Nat.zero_add, Nat.add_zero]
  have hin : ∀ r, r < gN (gI I) → ∀ a : Nat, Wp L xs (d+4) 168 19 [some (.ref (64)), some (.int (nI a)), some (.int (nI r)), some (.int (nI (r + 1)))] [] (mk I J R Z) P = Wp L xs (d+4) 168 55 [some (.ref (64)), some (.int (nI (lp (fun k a => if agA (gI I) V r (r + 1 + k) = true then a else a + 1) (gN (gI I) - (r + 1)) a))), some (.int (nI r)), some (.int (nI (gN (gI I))))] [] (mk I J R Z) P := by
    intro r hr a
    refine lp_to (F := fun i (a : Nat) => Wp L xs (d+4) 168 19 [some (.ref (64)), some (.int (nI a)), some (.int (nI r)), some (.int (nI (r + 1 + i)))] [] (mk I J R Z) P) (B := fun k a => if agA (gI I) V r (r + 1 + k) = true then a else a + 1) (gN (gI I) - (r + 1)) a ?_ ?_
    · intro i a hi
      refine w168_19.trans ?_
      have h1 := hag r (r + 1 + i) (by omega) (by omega)
      simp (discharger := omega) only [↓w168_0, ↓w168_1, ↓w168_2, ↓w168_3, ↓w168_5, ↓w168_6, ↓w168_9, ↓w168_12, ↓w168_15, ↓w168_16, ↓w168_17, ↓w168_18, ↓w168_20, ↓w168_21, ↓w168_24, ↓w168_27, ↓w168_30, ↓w168_31, ↓w168_34, ↓w168_35, ↓w168_38, ↓w168_39, ↓w168_40, ↓w168_43, ↓w168_46, ↓w168_49, ↓w168_52, ↓w168_58, ↓w168_61, ↓w168_62, ↓h1, ↓kc_i, ↓kc_l, ↓kc_r, ↓kc_n, rc64, g64_0, g64_1, g64_2, g64_3, g64_4, g64_5, g64_6, g64_7, g64_8, g64_9, g64_10, g64_11, g64_12, rc76, g76_0, p76_0, g76_1, p76_1, g76_2, p76_2, g76_3, g76_4, g76_5, g76_6, g76_7, g76_8, rc126, g126_0, g126_1, g126_2, p126_2, rc114, g114_0, p114_0, g114_1, p114_1, g114_2, g114_3, g114_4, g114_5, g114_6, g114_7, g114_8, g114_9, g114_10, g114_11, g114_12, hN, mul8, mul8', mul4, mul4', nI_add, inT, nclN, ltT, ltF, leT, leF, eqT, eqF, nzF, m1F, m1T, shr, shg, bI0, bI1, bo_bI, bo_1, bo_0, eq10, eq00, frT1, frT2, frT3, fit0, fit1, fit2, fit3, true_and, and_true, ↓reduceIte, Nat.reduceAdd, Nat.reduceMul, and_self, not_false_eq_true, not_true_eq_false, Nat.zero_add, Nat.add_zero]
      cases agA (gI I) V r (r + 1 + i) <;> simp [Nat.add_assoc]
    · refine w168_19.trans ?_
      rw [show r + 1 + (gN (gI I) - (r + 1)) = gN (gI I) by omega]
      simp (discharger := omega) only [↓w168_0, ↓w168_1, ↓w168_2, ↓w168_3, ↓w168_5, ↓w168_6, ↓w168_9, ↓w168_12, ↓w168_15, ↓w168_16, ↓w168_17, ↓w168_18, ↓w168_20, ↓w168_21, ↓w168_24, ↓w168_27, ↓w168_30, ↓w168_31, ↓w168_34, ↓w168_35, ↓w168_38, ↓w168_39, ↓w168_40, ↓w168_43, ↓w168_46, ↓w168_49, ↓w168_52, ↓w168_58, ↓w168_61, ↓w168_62, rc64, g64_0, g64_1, g64_2, g64_3, g64_4, g64_5, g64_6, g64_7, g64_8, g64_9, g64_10, g64_11, g64_12, rc76, g76_0, p76_0, g76_1, p76_1, g76_2, p76_2, g76_3, g76_4, g76_5, g76_6, g76_7, g76_8, hN, mul8, mul8', mul4, mul4', nI_add, inT, nclN, ltT, ltF, leT, leF, eqT, eqF, nzF, m1F, m1T, shr, shg, bI0, bI1, bo_bI, bo_1, bo_0, eq10, eq00, frT1, frT2, frT3, fit0, fit1, fit2, fit3, true_and, and_true, ↓reduceIte, Nat.reduceAdd, Nat.reduceMul, and_self, not_false_eq_true, not_true_eq_false, Nat.zero_add, Nat.add_zero]
  refine lp_any (F := fun i (a : Nat) t => Wp L xs (d+4) 168 4 [some (.ref (64)), some (.int (nI a)), some (.int (nI i)), t] [] (mk I J R Z) P) (B := fun r a => lp (fun k a => if agA (gI I) V r (r + 1 + k) = true then a else a + 1) (gN (gI I) - (r + 1)) a) (G := fun q => P (some (.int (nI q))) (mk I J R Z)) (gN (gI I)) ?_ ?_ 0 none
  · intro i a t hi
    refine ⟨some (.int (nI (gN (gI I)))), w168_4.trans ?_⟩
    simp (discharger := omega) only [↓w168_0, ↓w168_1, ↓w168_2, ↓w168_3, ↓w168_5, ↓w168_6, ↓w168_9, ↓w168_12, ↓w168_15, ↓w168_16, ↓w168_17, ↓w168_18, ↓w168_20, ↓w168_21, ↓w168_24, ↓w168_27, ↓w168_30, ↓w168_31, ↓w168_34, ↓w168_35, ↓w168_38, ↓w168_39, ↓w168_40, ↓w168_43, ↓w168_46, ↓w168_49, ↓w168_52, ↓w168_55, ↓w168_58, ↓w168_61, ↓w168_62, rc64, g64_0, g64_1, g64_2, g64_3, g64_4, g64_5, g64_6, g64_7, g64_8, g64_9, g64_10, g64_11, g64_12, rc76, g76_0, p76_0, g76_1, p76_1, g76_2, p76_2, g76_3, g76_4, g76_5, g76_6, g76_7, g76_8, hN, hin i hi, mul8, mul8', mul4, mul4', nI_add, inT, nclN, ltT, ltF, leT, leF, eqT, eqF, nzF, m1F, m1T, shr, shg, bI0, bI1, bo_bI, bo_1, bo_0, eq10, eq00, frT1, frT2, frT3, fit0, fit1, fit2, fit3, true_and, and_true, ↓reduceIte, Nat.reduceAdd, Nat.reduceMul, and_self, not_false_eq_true, not_true_eq_false, Nat.zero_add, Nat.add_zero]
  · intro a t
    refine w168_4.trans ?_
    simp (discharger := omega) only [↓w168_0, ↓w168_1, ↓w168_2, ↓w168_3, ↓w168_5, ↓w168_6, ↓w168_9, ↓w168_12, ↓w168_15, ↓w168_16, ↓w168_17, ↓w168_18, ↓w168_20, ↓w168_21, ↓w168_24, ↓w168_27, ↓w168_30, ↓w168_31, ↓w168_34, ↓w168_35, ↓w168_38, ↓w168_39, ↓w168_40, ↓w168_43, ↓w168_46, ↓w168_49, ↓w168_52, ↓w168_55, ↓w168_58, ↓w168_61, ↓w168_62, rc64, g64_0, g64_1, g64_2, g64_3, g64_4, g64_5, g64_6, g64_7, g64_8, g64_9, g64_10, g64_11, g64_12, rc76, g76_0, p76_0, g76_1, p76_1, g76_2, p76_2, g76_3, g76_4, g76_5, g76_6, g76_7, g76_8, hN, mul8, mul8', mul4, mul4', nI_add, inT, nclN, ltT, ltF, leT, leF, eqT, eqF, nzF, m1F, m1T, shr, shg, bI0, bI1, bo_bI, bo_1, bo_0, eq10, eq00, frT1, frT2, frT3, fit0, fit1, fit2, fit3, true_and, and_true, ↓reduceIte, Nat.reduceAdd, Nat.reduceMul, and_self, not_false_eq_true, not_true_eq_false, Nat.zero_add, Nat.add_zero]
theorem dAok (hG : okG G) (hX : okX G) (hV : okV B G V) (hB : B + 200 < 2147483648) (hn : n ≤ 99) : okV (B + 99) G (dA G V s n).1 := by
  unfold dA
  split
  · exact okV_mono hV (by omega)
  · exact okV_mono (dA_ok hG hX hV hB (by omega) (by omega) n hn) (by omega)
theorem inr_of1 (h : inr x (nI 1) (nI n) = true) (hn : n < 2147483647) : ∃ j, 1 ≤ j ∧ j < n + 1 ∧ x = nI j := by
  have h2 := h
  unfold inr at h2
  rw [Bool.and_eq_true, Bool.not_eq_true', Bool.not_eq_true', decide_eq_false_iff_not, decide_eq_false_iff_not] at h2
  have h0 : inr x (nI 0) (nI n) = true := by
    unfold inr
    have : ¬ x < nI 0 := fun z => h2.1 (Int32.lt_trans z (by decide))
    simp [this, h2.2]
  obtain ⟨j, hj, rfl⟩ := inr_of h0 hn
  refine ⟨j, ?_, hj, rfl⟩
  cases j with
  | zero => exact absurd (by decide : nI 0 < nI 1) h2.1
  | succ j => omega
theorem k_drives (hG : okG (gI I)) (hX : okX (gI I)) (hV : okV B (gI I) (vw I 102)) (hB : B + 400 < 2147483648) (hl : can 8 (I 127)) (ht : cS (vw I 114)) : ∃ I', trE I I' ∧ ∀ P, Wp L xs (d+7) 157 0 [some (.ref (64)), some (.int (x)), some (.int (y)), some (.int (z)), none] [] (mk I J R Z) P = P (some (.int (vDri (gI I) (vw I 102) x y z))) (mk I' J R Z) := by
  unfold vDri
  by_cases hc : (inr x (nI 0) (nI 9999) && (inr y (nI 1) (nI 99) && inr z (nI 0) (nI 2))) = true
  · rw [if_pos hc]
    simp only [Bool.and_eq_true] at hc
    obtain ⟨sd, hsd, rfl⟩ := inr_of hc.1 (by omega)
    obtain ⟨mn, hm1, hmn, rfl⟩ := inr_of1 hc.2.1 (by omega)
    obtain ⟨j, hj, rfl⟩ := inr_of hc.2.2 (by omega)
    rw [nI_clamp (by omega), nI_clamp (by omega)]
    have hcp := fun P => k_copyFrom (L := L) (xs := xs) (d := d + 5) (I := I) (J := J) (R := R) (Z := Z) (P := P) isS_102 isS_114 (by omega) (okV_cS hV) ht
    generalize hI1 : putS I 114 (vw I 102) = I1 at *
    have e1 : ∀ a, (a < 114 ∨ 126 ≤ a) → I1 a = I a := fun a ha => by rw [← hI1]; exact ps_ne (by omega)
    have hag : agG (gI I) (gI I1) := ⟨fun k _ => by show I (76 + 0) k = I1 (76 + 0) k; rw [e1 _ (by omega)], fun j c h1 h2 _ => by show I (76 + j) c = I1 (76 + j) c; rw [e1 _ (by omega)]⟩
    obtain ⟨I', hE, hV', hw⟩ := k_driveTrial (L := L) (xs := xs) (d := d) (I := I1) (J := J) (R := R) (Z := Z) (V := vw I 102) (sd := sd) (mn := mn) (ag_okG hag hG) (ag_okX hag hX) (ag_okV hag hV) (fun j hj => by rw [← hI1, ps_j hj]) (show B + 200 < 2147483648 by omega) (fun k hk => by rw [e1 _ (by omega)]; exact hl k hk) (by omega) (by omega)
    have hdg : dA (gI I1) (vw I 102) sd mn = dA (gI I) (vw I 102) sd mn := by
      unfold dA
      rw [← ag_N hag, ← ag_M hag]
      split
      · rfl
      · rename_i h0
        have key : ∀ n, dL (gI I1) (vw I 102) sd n = dL (gI I) (vw I 102) sd n := by
          intro n
          induction n with
          | zero =>
            have e : ∀ G, dL G (vw I 102) sd 0 = (vw I 102, sd, 0) := fun _ => rfl
            rw [e, e]
          | succ n ih =>
            rw [dL_s, dL_s, ih]
            generalize dL (gI I) (vw I 102) sd n = q
            have hr : dr (gI I1) q.2.1 = dr (gI I) q.2.1 := by unfold dr; rw [ag_N hag]
            have hcc : dc (gI I1) q.2.1 = dc (gI I) q.2.1 := by unfold dc; rw [ag_M hag]
            unfold dS
            rw [hr, hcc, ← ag_stp (dW_lt dw_lt) hag (fun _ => dc_lt (by omega)), ← ag_cnd (dW_lt dw_lt) hag (fun _ => dc_lt (by omega))]
        exact key mn
    rw [hdg] at hV' hw
    have hok := dAok (s := sd) (n := mn) hG hX hV (by omega) (by omega)
    have hag2 : agG (gI I) (gI I') := ⟨fun k _ => by show I (76 + 0) k = I' (76 + 0) k; rw [hE.1 _ (by omega), e1 _ (by omega)], fun j c h1 h2 _ => by show I (76 + j) c = I' (76 + j) c; rw [hE.1 _ (by omega), e1 _ (by omega)]⟩
    generalize dA (gI I) (vw I 102) sd mn = q at *
    have hqu := fun P => k_quarrels (L := L) (xs := xs) (d := d + 2) (I := I') (J := J) (R := R) (Z := Z) (P := P) (ag_okG hag2 hG) (ag_okV hag2 hok) hV'
    have hqe : qua (gI I') q.1 = qua (gI I) q.1 := by
      unfold qua
      rw [← ag_N hag2]
      have : ∀ r o, agA (gI I') q.1 r o = agA (gI I) q.1 r o := fun r o => by
        unfold agA agr
        rw [← ag_M hag2]
        refine al_cg fun a ha => ?_
        rw [hag2.2 5 a (by decide) (by decide) ha]
      simp only [this]
    rw [hqe] at hqu
    have hria : lp (fun r a => a + I' (114 + 7) r) 5 (nI 0) = rIA q.1 := by unfold rIA; rw [hV' 7 (by decide)]
    have hri := fun P => k_ranInAll (L := L) (xs := xs) (d := d + 6) (I := I') (J := J) (R := R) (Z := Z) (P := P) isS_114
    rw [hria] at hri
    refine ⟨I', ⟨fun a ha => by rw [hE.1 a ha, e1 a (by omega)], hE.2⟩, fun P => ?_⟩
    have hj' : j = 0 ∨ j = 1 ∨ j = 2 := by omega
    rcases hj' with rfl | rfl | rfl
    · simp (discharger := omega) only [↓w157_0, ↓w157_1, ↓w157_4, ↓w157_5, ↓w157_8, ↓w157_11, ↓w157_12, ↓w157_13, ↓w157_16, ↓w157_17, ↓w157_19, ↓w157_22, ↓w157_23, ↓w157_26, ↓w157_27, ↓w157_28, ↓w157_31, ↓w157_32, ↓w157_33, ↓w157_34, ↓w157_37, ↓w157_38, ↓w157_41, ↓w157_44, ↓w157_45, ↓w157_46, ↓w157_47, ↓w157_50, ↓w157_52, ↓w157_53, ↓w157_56, ↓w157_58, ↓w157_59, ↓w157_60, ↓w157_61, ↓w157_64, ↓w157_65, ↓w157_68, ↓w157_71, ↓w157_74, ↓w157_75, ↓w157_78, ↓hcp, ↓hw, ↓kc_i, ↓kc_l, ↓kc_r, ↓kc_n, rc64, g64_0, g64_1, g64_2, g64_3, g64_4, g64_5, g64_6, g64_7, g64_8, g64_9, g64_10, g64_11, g64_12, rc114, g114_0, p114_0, g114_1, p114_1, g114_2, g114_3, g114_4, g114_5, g114_6, g114_7, g114_8, g114_9, g114_10, g114_11, g114_12, mul8, mul8', mul4, mul4', nI_add, inT, nclN, ltT, ltF, leT, leF, eqT, eqF, nzF, m1F, m1T, shr, shg, bI0, bI1, bo_bI, bo_1, bo_0, eq10, eq00, frT1, frT2, frT3, fit0, fit1, fit2, fit3, true_and, and_true, ↓reduceIte, Nat.reduceAdd, Nat.reduceMul, and_self, not_false_eq_true, not_true_eq_false, Nat.zero_add, Nat.add_zero]
    · simp (discharger := omega) only [↓w157_0, ↓w157_1, ↓w157_4, ↓w157_5, ↓w157_8, ↓w157_11, ↓w157_12, ↓w157_13, ↓w157_16, ↓w157_17, ↓w157_19, ↓w157_22, ↓w157_23, ↓w157_26, ↓w157_27, ↓w157_28, ↓w157_31, ↓w157_32, ↓w157_33, ↓w157_34, ↓w157_37, ↓w157_38, ↓w157_41, ↓w157_44, ↓w157_45, ↓w157_46, ↓w157_47, ↓w157_50, ↓w157_52, ↓w157_53, ↓w157_56, ↓w157_58, ↓w157_59, ↓w157_60, ↓w157_61, ↓w157_64, ↓w157_65, ↓w157_68, ↓w157_71, ↓w157_74, ↓w157_75, ↓w157_78, ↓hcp, ↓hw, ↓hri, ↓kc_i, ↓kc_l, ↓kc_r, ↓kc_n, rc64, g64_0, g64_1, g64_2, g64_3, g64_4, g64_5, g64_6, g64_7, g64_8, g64_9, g64_10, g64_11, g64_12, rc114, g114_0, p114_0, g114_1, p114_1, g114_2, g114_3, g114_4, g114_5, g114_6, g114_7, g114_8, g114_9, g114_10, g114_11, g114_12, mul8, mul8', mul4, mul4', nI_add, inT, nclN, ltT, ltF, leT, leF, eqT, eqF, nzF, m1F, m1T, shr, shg, bI0, bI1, bo_bI, bo_1, bo_0, eq10, eq00, frT1, frT2, frT3, fit0, fit1, fit2, fit3, true_and, and_true, ↓reduceIte, Nat.reduceAdd, Nat.reduceMul, and_self, not_false_eq_true, not_true_eq_false, Nat.zero_add, Nat.add_zero]
    · simp (discharger := omega) only [↓w157_0, ↓w157_1, ↓w157_4, ↓w157_5, ↓w157_8, ↓w157_11, ↓w157_12, ↓w157_13, ↓w157_16, ↓w157_17, ↓w157_19, ↓w157_22, ↓w157_23, ↓w157_26, ↓w157_27, ↓w157_28, ↓w157_31, ↓w157_32, ↓w157_33, ↓w157_34, ↓w157_37, ↓w157_38, ↓w157_41, ↓w157_44, ↓w157_45, ↓w157_46, ↓w157_47, ↓w157_50, ↓w157_52, ↓w157_53, ↓w157_56, ↓w157_58, ↓w157_59, ↓w157_60, ↓w157_61, ↓w157_64, ↓w157_65, ↓w157_68, ↓w157_71, ↓w157_74, ↓w157_75, ↓w157_78, ↓hcp, ↓hw, ↓hqu, ↓kc_i, ↓kc_l, ↓kc_r, ↓kc_n, rc64, g64_0, g64_1, g64_2, g64_3, g64_4, g64_5, g64_6, g64_7, g64_8, g64_9, g64_10, g64_11, g64_12, rc114, g114_0, p114_0, g114_1, p114_1, g114_2, g114_3, g114_4, g114_5, g114_6, g114_7, g114_8, g114_9, g114_10, g114_11, g114_12, mul8, mul8', mul4, mul4', nI_add, inT, nclN, ltT, ltF, leT, leF, eqT, eqF, nzF, m1F, m1T, shr, shg, bI0, bI1, bo_bI, bo_1, bo_0, eq10, eq00, frT1, frT2, frT3, fit0, fit1, fit2, fit3, true_and, and_true, ↓reduceIte, Nat.reduceAdd, Nat.reduceMul, and_self, not_false_eq_true, not_true_eq_false, Nat.zero_add, Nat.add_zero]
  · rw [if_neg hc]
    refine ⟨I, trE_r hl ht, fun P => ?_⟩
    simp (discharger := omega) only [↓w157_0, ↓w157_1, ↓w157_4, ↓w157_5, ↓w157_8, ↓w157_11, ↓w157_12, ↓w157_13, ↓w157_16, ↓w157_17, ↓w157_19, ↓w157_22, ↓w157_23, ↓w157_26, ↓w157_27, ↓w157_28, ↓w157_31, ↓w157_32, ↓w157_33, ↓w157_34, ↓w157_37, ↓w157_38, ↓w157_41, ↓w157_44, ↓w157_45, ↓w157_46, ↓w157_47, ↓w157_50, ↓w157_52, ↓w157_53, ↓w157_56, ↓w157_58, ↓w157_59, ↓w157_60, ↓w157_61, ↓w157_64, ↓w157_65, ↓w157_68, ↓w157_71, ↓w157_74, ↓w157_75, ↓w157_78, mul8, mul8', mul4, mul4', nI_add, inT, nclN, ltT, ltF, leT, leF, eqT, eqF, nzF, m1F, m1T, shr, shg, bI0, bI1, bo_bI, bo_1, bo_0, eq10, eq00, frT1, frT2, frT3, fit0, fit1, fit2, fit3, true_and, and_true, ↓reduceIte, Nat.reduceAdd, Nat.reduceMul, and_self, not_false_eq_true, not_true_eq_false, Nat.zero_add, Nat.add_zero]
    unfold inr at hc
    by_cases h1 : x < nI 0
    · simp [h1]
    · by_cases h2 : nI 9999 < x
      · simp [h1, h2]
      · by_cases h3 : y < nI 1
        · simp [h1, h2, h3]
        · by_cases h4 : nI 99 < y
          · simp [h1, h2, h3, h4]
          · by_cases h6 : z < nI 0
            · simp [h1, h2, h3, h4, h6]
            · by_cases h7 : z ≤ nI 2
              · exact absurd (by simp [h1, h2, h3, h4, h6, Int32.not_lt.mpr h7]) hc
              · simp [h1, h2, h3, h4, h6, h7]
end F4
