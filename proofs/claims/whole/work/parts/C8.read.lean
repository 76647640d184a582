/-! the class's statement, and all of them -/
section G8
variable {L : Nat} {xs : Nat → Int32} {d : Nat} {P : Option Value → Hp → Prop} {I I' I2 : Mi} {J J' J2 : Mj} {R R' : Mr} {Z : Mz} {k n i p w b m x T lv dep F M N K le gg c lo hi : Nat} {g : Nat → Nat} {s : Rs} {φ : Nat → Int32} {l : Lw} {y : Int64} {D : Dg} {f f' : Bool}
theorem rdF_t (h1 : rdF I J I' J') (h2 : rdF I' J' I2 J2) : rdF I J I2 J2 := ⟨fun a q1 q2 q3 q4 => (h2.1 a q1 q2 q3 q4).trans (h1.1 a q1 q2 q3 q4), fun a q => (h2.2.1 a q).trans (h1.2.1 a q), h2.2.2.trans h1.2.2⟩
theorem rdF_r : rdF I J I J := ⟨fun _ _ _ _ _ => rfl, fun _ _ => rfl, rfl⟩
theorem CD_83 (h : CD I J g n F D) (hN : φ 0 = nI N ∧ N < 10) (hK : φ 1 = nI K ∧ K < 10) (h2 : φ 2 = I 83 2) : CD (st I 83 φ) J g n F (N, K, D.2.2) := by
  obtain ⟨h0, h1, hM, hc, ht, ψ, hl⟩ := h
  refine ⟨?_, ?_, ?_, fun c hc' => ?_, ?_, ψ, lw_st (by decide) (by decide) hl⟩
  · rw [st_eq]; exact hN
  · rw [st_eq]; exact hK
  · rw [st_eq, h2]; exact hM
  · rw [st_ne (by decide), st_ne (by decide), st_ne (by decide), st_ne (by decide)]; exact hc c hc'
  · rw [st_ne (by decide)]; exact ht
theorem k_stat (hT : cutT I J R g n T) (hn : n ≤ 1000) (hg : ∀ k, k < n → g k < 256) (hi : i < T) (hD : CD I J g n F D) (hF : 29 < F) : ∃ I' J', (rdF I J I' J' ∧ cutT I' J' R g n T ∧ ((stmS g n F D i).2 = 0 → CD I' J' g n F (stmD g n D i))) ∧ ∀ P, Wp L xs (d+2*F+6) 30 0 [some (.ref (72)), some (.ref (83))] [] (mk (rd I (i, 0)) J (rr R g n i) Z) P = P none (mk (rd I' (stmS g n F D i)) J' (rr R g n (stmS g n F D i).1) Z) := by
  have hk : kd g n i ≠ 0 := (cutT_lt hT (by omega)).mpr hi
  have hw := wd_lt (g := g) (n := n) (i := i)
  have gd : (rr R g n i 72 4).getD 29 = wd g n i := by rw [rr72]; rfl
  have t69 : ∀ j, j ≤ T → kd g n j = 2 → I 69 j = nI (vl g n j) := fun j hj => (hT.2.2.1 j hj).2.2.2.1
  have lt1 : ∀ j, j ≤ T → kd g n j ≠ 0 → j + 1 ≤ T := fun j hj h => (cutT_lt hT hj).mp h
  obtain ⟨h0, h1, hM, hc, ht, ψ, hl⟩ := id hD
  unfold stmS stmD
  by_cases q0 : wd g n i = 0
  · rw [if_pos q0, if_pos q0]
    have kr := fun P => k_readReplicas (L := L) (xs := xs) (d := d + 2 * F + 3) (P := P) (Z := Z) hT hn hg (show i ≤ T by omega) h0.1 h0.2
    refine ⟨st I 83 (upd (I 83) 0 (I 69 (sA3 g n (D.1 ≠ 0) i).1)), J, ⟨⟨fun a a1 a2 a3 a4 => st_ne (by omega), fun _ _ => rfl, st_ne (by decide)⟩, cutT_st (by decide) hT, fun z => ?_⟩, fun P => ?_⟩
    · obtain ⟨z1, z2, z3, z4, -⟩ := sRep_i hk z
      refine CD_83 hD (N := vl g n (i + 1)) (K := D.2.1) ⟨by rw [upd_eq, z2, t69 (i + 1) (by omega) z3], by omega⟩ ⟨by rw [upd_ne (by decide), h1.1], h1.2⟩ (upd_ne (by decide))
    · simp (discharger := omega) only [↓w30_0, ↓w30_1, ↓w30_4, ↓w30_7, ↓w30_10, ↓w30_11, ↓w30_12, ↓w30_15, ↓w30_18, ↓w30_19, ↓w30_22, ↓w30_25, ↓w30_28, ↓w30_29, ↓w30_30, ↓w30_33, ↓w30_36, ↓w30_37, ↓w30_40, ↓w30_43, ↓w30_46, ↓w30_47, ↓w30_48, ↓w30_51, ↓w30_54, ↓w30_55, ↓w30_58, ↓w30_61, ↓w30_64, ↓w30_65, ↓w30_68, ↓w30_71, ↓w30_72, ↓w30_73, ↓w30_76, rc72, g72_0, g72_1, g72_2, p72_2, g72_3, p72_3, g72_4, p72_4, g72_5, p72_5, gd, acT, acF, ↓kr, ↓kc_i, ↓kc_l, ↓kc_r, ↓kc_n, mul8, mul8', mul4, mul4', nI_add, inT, nclN, ltT, ltF, leT, leF, eqT, eqF, nzF, m1F, m1T, shr, shg, bI0, bI1, bo_bI, bo_1, bo_0, eq10, eq00, frT1, frT2, frT3, fit0, fit1, fit2, fit3, true_and, and_true, ↓reduceIte, Nat.reduceAdd, Nat.reduceMul, and_self, not_false_eq_true, not_true_eq_false, Nat.zero_add, Nat.add_zero]
  · rw [if_neg q0, if_neg q0]
    by_cases q1 : wd g n i = 1
    · rw [if_pos q1, if_pos q1]
      have kr := fun P => k_readKeys (L := L) (xs := xs) (d := d + 2 * F + 3) (P := P) (Z := Z) hT hn hg (show i ≤ T by omega) h1.1 h1.2
      refine ⟨st I 83 (upd (I 83) 1 (I 69 (sA3 g n (D.2.1 ≠ 0) i).1)), J, ⟨⟨fun a a1 a2 a3 a4 => st_ne (by omega), fun _ _ => rfl, st_ne (by decide)⟩, cutT_st (by decide) hT, fun z => ?_⟩, fun P => ?_⟩
      · obtain ⟨z1, z2, z3, z4, -⟩ := sKey_i hk z
        refine CD_83 hD (N := D.1) (K := vl g n (i + 1)) ⟨by rw [upd_ne (by decide), h0.1], h0.2⟩ ⟨by rw [upd_eq, z2, t69 (i + 1) (by omega) z3], by omega⟩ (upd_ne (by decide))
      · simp (discharger := omega) only [↓w30_0, ↓w30_1, ↓w30_4, ↓w30_7, ↓w30_10, ↓w30_11, ↓w30_12, ↓w30_15, ↓w30_18, ↓w30_19, ↓w30_22, ↓w30_25, ↓w30_28, ↓w30_29, ↓w30_30, ↓w30_33, ↓w30_36, ↓w30_37, ↓w30_40, ↓w30_43, ↓w30_46, ↓w30_47, ↓w30_48, ↓w30_51, ↓w30_54, ↓w30_55, ↓w30_58, ↓w30_61, ↓w30_64, ↓w30_65, ↓w30_68, ↓w30_71, ↓w30_72, ↓w30_73, ↓w30_76, rc72, g72_0, g72_1, g72_2, p72_2, g72_3, p72_3, g72_4, p72_4, g72_5, p72_5, gd, acT, acF, ↓kr, ↓kc_i, ↓kc_l, ↓kc_r, ↓kc_n, mul8, mul8', mul4, mul4', nI_add, inT, nclN, ltT, ltF, leT, leF, eqT, eqF, nzF, m1F, m1T, shr, shg, bI0, bI1, bo_bI, bo_1, bo_0, eq10, eq00, frT1, frT2, frT3, fit0, fit1, fit2, fit3, true_and, and_true, ↓reduceIte, Nat.reduceAdd, Nat.reduceMul, and_self, not_false_eq_true, not_true_eq_false, Nat.zero_add, Nat.add_zero]
    · rw [if_neg q1, if_neg q1]
      by_cases q2 : wd g n i = 2
      · rw [if_pos q2, if_pos q2]
        by_cases h8 : D.2.2.1 = 8
        · have kr := fun P => k_readCommand8 (L := L) (xs := xs) (d := d + 2 * F + 3) (P := P) (Z := Z) (N := D.1) (K := D.2.1) (f := sNm g n D i) hT hn (show i ≤ T by omega) (by rw [hM.1, h8])
          rw [← h8] at kr
          refine ⟨I, J, ⟨rdF_r, hT, fun z => absurd (sCmd_i hk z).1 (by omega)⟩, fun P => ?_⟩
          simp (discharger := omega) only [↓w30_0, ↓w30_1, ↓w30_4, ↓w30_7, ↓w30_10, ↓w30_11, ↓w30_12, ↓w30_15, ↓w30_18, ↓w30_19, ↓w30_22, ↓w30_25, ↓w30_28, ↓w30_29, ↓w30_30, ↓w30_33, ↓w30_36, ↓w30_37, ↓w30_40, ↓w30_43, ↓w30_46, ↓w30_47, ↓w30_48, ↓w30_51, ↓w30_54, ↓w30_55, ↓w30_58, ↓w30_61, ↓w30_64, ↓w30_65, ↓w30_68, ↓w30_71, ↓w30_72, ↓w30_73, ↓w30_76, rc72, g72_0, g72_1, g72_2, p72_2, g72_3, p72_3, g72_4, p72_4, g72_5, p72_5, gd, acT, acF, ↓kr, ↓kc_i, ↓kc_l, ↓kc_r, ↓kc_n, mul8, mul8', mul4, mul4', nI_add, inT, nclN, ltT, ltF, leT, leF, eqT, eqF, nzF, m1F, m1T, shr, shg, bI0, bI1, bo_bI, bo_1, bo_0, eq10, eq00, frT1, frT2, frT3, fit0, fit1, fit2, fit3, true_and, and_true, ↓reduceIte, Nat.reduceAdd, Nat.reduceMul, and_self, not_false_eq_true, not_true_eq_false, Nat.zero_add, Nat.add_zero]
        · have hM8 : D.2.2.1 < 8 := by omega
          have j0 : sC1 g n i = (i + 1, 0) := ad_0 hk
          have hft : isNm g n (i + 1) = true → fndN (J 89) D.2.2.1 (J 70 (sC1 g n i).1) = sNm g n D i := fun hnm => by
            rw [j0]
            have h70 : J 70 (i + 1) = lN (w32 g n (i + 1)) := (hT.2.2.1 (i + 1) (by omega)).2.2.2.2.2 (isNm_k hnm)
            show fndN (J 89) D.2.2.1 (J 70 (i + 1)) = _
            rw [h70]
            exact fnd_cg (fun c hc' => (hc c hc').2.2.2.2)
          have hsame : sC2 g n (fndN (J 89) D.2.2.1 (J 70 (sC1 g n i).1)) i = sC2 g n (sNm g n D i) i := by
            cases hnm : isNm g n (i + 1)
            · exact sC2_f (by rw [j0]; exact hnm)
            · rw [hft hnm]
          have kr := fun P => k_readCommand (L := L) (xs := xs) (d := d + 2 * F + 3) (P := P) (Z := Z) (J := J) hT hn hg (show i ≤ T by omega) h0.1 h1.1 hM.1 h0.2 h1.2 hM8 rfl
          rw [sCmd_f hsame] at kr
          refine ⟨cmI I g n D.2.1 D.2.2.1 (fndN (J 89) D.2.2.1 (J 70 (sC1 g n i).1)) i, st J 89 (vp_updL (J 89) D.2.2.1 (J 70 (sC1 g n i).1)), ⟨⟨fun a a1 a2 a3 a4 => ?_, fun a ha => st_ne ha, ?_⟩, ?_, fun z => ?_⟩, fun P => ?_⟩
          rotate_left 4
          · simp (discharger := omega) only [↓w30_0, ↓w30_1, ↓w30_4, ↓w30_7, ↓w30_10, ↓w30_11, ↓w30_12, ↓w30_15, ↓w30_18, ↓w30_19, ↓w30_22, ↓w30_25, ↓w30_28, ↓w30_29, ↓w30_30, ↓w30_33, ↓w30_36, ↓w30_37, ↓w30_40, ↓w30_43, ↓w30_46, ↓w30_47, ↓w30_48, ↓w30_51, ↓w30_54, ↓w30_55, ↓w30_58, ↓w30_61, ↓w30_64, ↓w30_65, ↓w30_68, ↓w30_71, ↓w30_72, ↓w30_73, ↓w30_76, rc72, g72_0, g72_1, g72_2, p72_2, g72_3, p72_3, g72_4, p72_4, g72_5, p72_5, gd, acT, acF, ↓kr, ↓kc_i, ↓kc_l, ↓kc_r, ↓kc_n, mul8, mul8', mul4, mul4', nI_add, inT, nclN, ltT, ltF, leT, leF, eqT, eqF, nzF, m1F, m1T, shr, shg, bI0, bI1, bo_bI, bo_1, bo_0, eq10, eq00, frT1, frT2, frT3, fit0, fit1, fit2, fit3, true_and, and_true, ↓reduceIte, Nat.reduceAdd, Nat.reduceMul, and_self, not_false_eq_true, not_true_eq_false, Nat.zero_add, Nat.add_zero]
          · unfold cmI; rw [st_ne (by omega), st_ne (by omega), st_ne (by omega), st_ne (by omega), st_ne (by omega)]
          · unfold cmI; rw [st_ne (by omega), st_ne (by omega), st_ne (by omega), st_ne (by omega), st_ne (by omega)]
          · unfold cmI; exact cutT_st (by decide) (cutT_st (by decide) (cutT_st (by decide) (cutT_st (by decide) (cutT_st (by decide) (cutT_sJ (by decide) hT)))))
          · obtain ⟨z1, z2, z3, z4, z5⟩ := sCmd_i hk z
            have hnm := z3.1
            have k1 : i + 1 ≤ T := by omega
            have k2 := lt1 (i + 1) k1 (by rw [isNm_k hnm]; decide)
            have w2 : kd g n (i + 2) = 1 := wd_kd (fun q => by have := z3.2.1; rw [q] at this; exact absurd this (by decide))
            have k3 := lt1 (i + 2) k2 (by rw [w2]; decide)
            have k4 := lt1 (i + 3) k3 (by rw [wd_kd (by rw [z3.2.2.1]; decide)]; decide)
            have k5 := lt1 (i + 4) k4 (by rw [z3.2.2.2.1.1]; decide)
            have k6 := lt1 (i + 5) k5 (by rw [wd_kd (by rw [z3.2.2.2.2.1]; decide)]; decide)
            have k7 := lt1 (i + 6) k6 (by rw [z3.2.2.2.2.2.1.1]; decide)
            have k8 := lt1 (i + 7) k7 (by rw [wd_kd (by rw [z3.2.2.2.2.2.2.1]; decide)]; decide)
            rw [hft hnm]
            have h70 : J 70 (sC1 g n i).1 = lN (w32 g n (i + 1)) := by rw [j0]; exact (hT.2.2.1 (i + 1) (by omega)).2.2.2.2.2 (isNm_k hnm)
            unfold cmI
            refine ⟨⟨by rw [st_eq, upd_ne (by decide)]; exact h0.1, h0.2⟩, ⟨by rw [st_eq, upd_ne (by decide)]; exact h1.1, h1.2⟩, ⟨by rw [st_eq, upd_eq], z1⟩, fun c hc' => ?_, ?_, ψ, lw_st (by decide) (by decide) (lw_st (by decide) (by decide) (lw_st (by decide) (by decide) (lw_st (by decide) (by decide) (lw_st (by decide) (by decide) hl))))⟩
            · by_cases e : c = D.2.2.1
              · subst e
                have ev : va_n D.2.2.2.1 D.2.2.1 i D.2.2.1 = i := if_pos rfl
                dsimp only
                rw [ev]
                refine ⟨?_, ?_, ?_, ?_, ?_⟩
                · rw [st_ne (by decide), st_ne (by decide), st_ne (by decide), st_ne (by decide), st_eq, upd_eq, z4.2.1]
                · rw [st_ne (by decide), st_ne (by decide), st_ne (by decide), st_eq, upd_eq, z4.2.2.1, t69 _ k4 z3.2.2.2.1.1]
                · rw [st_ne (by decide), st_ne (by decide), st_eq, upd_eq, z4.2.2.2.1, t69 _ k6 z3.2.2.2.2.2.1.1]
                · rw [st_ne (by decide), st_eq, upd_eq, z4.2.2.2.2, t69 _ k8 z3.2.2.2.2.2.2.2.1]
                · rw [st_eq, updL_eq, h70]
              · have hc2 : c < D.2.2.1 := by have : c < D.2.2.1 + 1 := hc'; omega
                have ev : va_n D.2.2.2.1 D.2.2.1 i c = D.2.2.2.1 c := if_neg e
                dsimp only
                rw [ev]
                obtain ⟨y1, y2, y3, y4, y5⟩ := hc c hc2
                refine ⟨?_, ?_, ?_, ?_, ?_⟩
                · rw [st_ne (by decide), st_ne (by decide), st_ne (by decide), st_ne (by decide), st_eq, upd_ne e, y1]
                · rw [st_ne (by decide), st_ne (by decide), st_ne (by decide), st_eq, upd_ne e, y2]
                · rw [st_ne (by decide), st_ne (by decide), st_eq, upd_ne e, y3]
                · rw [st_ne (by decide), st_eq, upd_ne e, y4]
                · rw [st_eq, updL_ne e, y5]
            · rw [st_ne (by decide), st_ne (by decide), st_ne (by decide), st_ne (by decide), st_ne (by decide)]; exact ht
      · rw [if_neg q2, if_neg q2]
        by_cases q6 : wd g n i = 6
        · rw [if_pos q6]
          have kr := fun P => k_readClashes (L := L) (xs := xs) (d := d) (P := P) (Z := Z) hT hn hg (show i ≤ T by omega) hk ht hl (adds_le (show 0 ≤ 1000 by omega)) hF
          refine ⟨lw (st I 72 (upd (I 72) 2 (nI 1))) (adds (adds (0, ψ) (lwD g n F D.2.2.2.2)) (if D.2.2.2.2 = 0 then (pE g n F 0 0 (i + 1)).2.2.1 else [])), J, ⟨⟨fun a a1 a2 a3 a4 => ?_, fun _ _ => rfl, ?_⟩, ?_, fun z => ?_⟩, fun P => ?_⟩
          rotate_left 4
          · simp (discharger := omega) only [↓w30_0, ↓w30_1, ↓w30_4, ↓w30_7, ↓w30_10, ↓w30_11, ↓w30_12, ↓w30_15, ↓w30_18, ↓w30_19, ↓w30_22, ↓w30_25, ↓w30_28, ↓w30_29, ↓w30_30, ↓w30_33, ↓w30_36, ↓w30_37, ↓w30_40, ↓w30_43, ↓w30_46, ↓w30_47, ↓w30_48, ↓w30_51, ↓w30_54, ↓w30_55, ↓w30_58, ↓w30_61, ↓w30_64, ↓w30_65, ↓w30_68, ↓w30_71, ↓w30_72, ↓w30_73, ↓w30_76, rc72, g72_0, g72_1, g72_2, p72_2, g72_3, p72_3, g72_4, p72_4, g72_5, p72_5, gd, acT, acF, ↓kr, ↓kc_i, ↓kc_l, ↓kc_r, ↓kc_n, mul8, mul8', mul4, mul4', nI_add, inT, nclN, ltT, ltF, leT, leF, eqT, eqF, nzF, m1F, m1T, shr, shg, bI0, bI1, bo_bI, bo_1, bo_0, eq10, eq00, frT1, frT2, frT3, fit0, fit1, fit2, fit3, true_and, and_true, ↓reduceIte, Nat.reduceAdd, Nat.reduceMul, and_self, not_false_eq_true, not_true_eq_false, Nat.zero_add, Nat.add_zero]
          · rw [lwo a2 a3, st_ne a1]
          · rw [lwo (by decide) (by decide), st_ne (by decide)]
          · exact cutT_lw (cutT_st (by decide) hT)
          · obtain ⟨z1, z2, z3, z4⟩ := sLaw_i hk z
            refine ⟨?_, ?_, ?_, fun c hc' => ?_, ?_, ψ, ?_⟩
            · rw [lwo (by decide) (by decide), st_ne (by decide)]; exact h0
            · rw [lwo (by decide) (by decide), st_ne (by decide)]; exact h1
            · rw [lwo (by decide) (by decide), st_ne (by decide)]; exact hM
            · rw [lwo (by decide) (by decide), st_ne (by decide), lwo (by decide) (by decide), st_ne (by decide), lwo (by decide) (by decide), st_ne (by decide), lwo (by decide) (by decide), st_ne (by decide)]; exact hc c hc'
            · rw [lwo (by decide) (by decide), st_eq, upd_eq]
              show nI 1 = bI (decide (i + 1 ≠ 0))
              rw [decide_eq_true (by omega)]; rfl
            · have e1 : lwD g n F D.2.2.2.2 = [] := if_pos z1
              have e2 : lwD g n F (i + 1) = (pE g n F 0 0 (i + 1)).2.2.1 := if_neg (by omega)
              rw [e1, if_pos z1, lw_lw]
              show _ = lw _ (adds (0, ψ) (lwD g n F (i + 1)))
              rw [e2]
              exact Eq.refl _
        · rw [if_neg q6]
          have w1 := fun P => k_wrong (L := L) (xs := xs) (d := d + 2 * F + 5) (P := P) (Z := Z) (k := 1) (s := (i, 0)) hT hn ⟨by show i ≤ T; omega, by show 0 < 100000; omega⟩ (by decide)
          refine ⟨I, J, ⟨rdF_r, hT, fun z => absurd z (wr_n0 (by decide))⟩, fun P => ?_⟩
          simp (discharger := omega) only [↓w30_0, ↓w30_1, ↓w30_4, ↓w30_7, ↓w30_10, ↓w30_11, ↓w30_12, ↓w30_15, ↓w30_18, ↓w30_19, ↓w30_22, ↓w30_25, ↓w30_28, ↓w30_29, ↓w30_30, ↓w30_33, ↓w30_36, ↓w30_37, ↓w30_40, ↓w30_43, ↓w30_46, ↓w30_47, ↓w30_48, ↓w30_51, ↓w30_54, ↓w30_55, ↓w30_58, ↓w30_61, ↓w30_64, ↓w30_65, ↓w30_68, ↓w30_71, ↓w30_72, ↓w30_73, ↓w30_76, rc72, g72_0, g72_1, g72_2, p72_2, g72_3, p72_3, g72_4, p72_4, g72_5, p72_5, gd, acT, acF, ↓w1, ↓kc_i, ↓kc_l, ↓kc_r, ↓kc_n, mul8, mul8', mul4, mul4', nI_add, inT, nclN, ltT, ltF, leT, leF, eqT, eqF, nzF, m1F, m1T, shr, shg, bI0, bI1, bo_bI, bo_1, bo_0, eq10, eq00, frT1, frT2, frT3, fit0, fit1, fit2, fit3, true_and, and_true, ↓reduceIte, Nat.reduceAdd, Nat.reduceMul, and_self, not_false_eq_true, not_true_eq_false, Nat.zero_add, Nat.add_zero]
theorem k_isOver (hT : cutT I J R g n T) (hn : n ≤ 1000) (hs : okRs T s) : Wp L xs d 29 0 [some (.ref (72))] [] (mk (rd I s) J (rr R g n s.1) Z) P = P (some (.int (bI (decide (s.2 ≠ 0) || decide (kd g n s.1 = 0))))) (mk (rd I s) J (rr R g n s.1) Z) := by
  have hTn := cutT_T hT
  obtain ⟨h1, h2⟩ := hs
  have h67 : I 67 s.1 = nI (cmk (kd g n s.1)) := (hT.2.2.1 s.1 h1).1
  have hk4 := kd_4 (g := g) (n := n) (i := s.1)
  by_cases hf : s.2 = 0
  · by_cases hk : kd g n s.1 = 0
    · simp (discharger := omega) only [↓w29_0, ↓w29_1, ↓w29_4, ↓w29_7, ↓w29_8, ↓w29_11, ↓w29_14, ↓w29_15, ↓w29_18, ↓w29_19, ↓w29_22, ↓w29_23, ↓w29_26, ↓w29_27, rc72, g72_0, g72_1, g72_2, p72_2, g72_3, p72_3, g72_4, p72_4, g72_5, p72_5, rc65, g65_0, g65_1, p65_1, g65_2, g65_3, g65_4, g65_5, g65_6, g65_7, p65_7, gi67, si67, rd72_3, rd72_5, rdo, h67, cmT0 hk, mul8, mul8', mul4, mul4', nI_add, inT, nclN, ltT, ltF, leT, leF, eqT, eqF, nzF, m1F, m1T, shr, shg, bI0, bI1, bo_bI, bo_1, bo_0, eq10, eq00, frT1, frT2, frT3, fit0, fit1, fit2, fit3, true_and, and_true, ↓reduceIte, Nat.reduceAdd, Nat.reduceMul, and_self, not_false_eq_true, not_true_eq_false, Nat.zero_add, Nat.add_zero]
      simp [hf, hk, bI_t]
    · simp (discharger := omega) only [↓w29_0, ↓w29_1, ↓w29_4, ↓w29_7, ↓w29_8, ↓w29_11, ↓w29_14, ↓w29_15, ↓w29_18, ↓w29_19, ↓w29_22, ↓w29_23, ↓w29_26, ↓w29_27, rc72, g72_0, g72_1, g72_2, p72_2, g72_3, p72_3, g72_4, p72_4, g72_5, p72_5, rc65, g65_0, g65_1, p65_1, g65_2, g65_3, g65_4, g65_5, g65_6, g65_7, p65_7, gi67, si67, rd72_3, rd72_5, rdo, h67, cmF0 hk4 hk, mul8, mul8', mul4, mul4', nI_add, inT, nclN, ltT, ltF, leT, leF, eqT, eqF, nzF, m1F, m1T, shr, shg, bI0, bI1, bo_bI, bo_1, bo_0, eq10, eq00, frT1, frT2, frT3, fit0, fit1, fit2, fit3, true_and, and_true, ↓reduceIte, Nat.reduceAdd, Nat.reduceMul, and_self, not_false_eq_true, not_true_eq_false, Nat.zero_add, Nat.add_zero]
      simp [hf, hk, bI_f]
  · simp (discharger := omega) only [↓w29_0, ↓w29_1, ↓w29_4, ↓w29_7, ↓w29_8, ↓w29_11, ↓w29_14, ↓w29_15, ↓w29_18, ↓w29_19, ↓w29_22, ↓w29_23, ↓w29_26, ↓w29_27, rc72, g72_0, g72_1, g72_2, p72_2, g72_3, p72_3, g72_4, p72_4, g72_5, p72_5, rc65, g65_0, g65_1, p65_1, g65_2, g65_3, g65_4, g65_5, g65_6, g65_7, p65_7, gi67, si67, rd72_3, rd72_5, rdo, mul8, mul8', mul4, mul4', nI_add, inT, nclN, ltT, ltF, leT, leF, eqT, eqF, nzF, m1F, m1T, shr, shg, bI0, bI1, bo_bI, bo_1, bo_0, eq10, eq00, frT1, frT2, frT3, fit0, fit1, fit2, fit3, true_and, and_true, ↓reduceIte, Nat.reduceAdd, Nat.reduceMul, and_self, not_false_eq_true, not_true_eq_false, Nat.zero_add, Nat.add_zero]
    simp [hf, bI_t]
theorem stmS_ok (hT : cutT I J R g n T) (hn : n ≤ 1000) (hi : i ≤ T) : okRs T (stmS g n F D i) := by
  have ok0 : okRs T (i, 0) := ⟨hi, by show 0 < 100000; omega⟩
  unfold stmS
  refine ite_ok ?_ (ite_ok ?_ (ite_ok ?_ (ite_ok ?_ (wr_ok hn (by decide) ok0))))
  · exact tkS_ok hT hn (tkN_ok hT hn (sA4_ok hn (sA3_ok hT hn hi)))
  · exact tkS_ok hT hn (tkN_ok hT hn (sA3_ok hT hn hi))
  · refine ite_ok (wr_ok hn (by decide) ok0) (tkS_ok hT hn (tkN_ok hT hn ?_))
    exact tkW_ok hT hn (tkN_ok hT hn (tkW_ok hT hn (tkN_ok hT hn (tkW_ok hT hn (tkK_ok hT hn (tkNN_ok hT hn (ad_ok hT ok0)))))))
  · refine tkS_ok hT hn ?_
    unfold sLv
    by_cases h : (sA3 g n (D.2.2.2.2 ≠ 0) i).2 = 0
    · rw [if_pos h]; exact pE_ok hT hn F 0 0 _ (sA3_ok hT hn hi).1
    · rw [if_neg h]; exact sA3_ok hT hn hi
theorem k_gLoop (hn : n ≤ 1000) (hg : ∀ k, k < n → g k < 256) (hF : 29 < F) : ∀ k j (D : Dg) i (I : Mi) (J : Mj), j + k = 1000 → cutT I J R g n T → i ≤ T → CD I J g n F D → ∃ I' J' x, (rdF I J I' J' ∧ cutT I' J' R g n T ∧ okRs T (gR g n F k D i).2 ∧ ((gR g n F k D i).2.2 = 0 → CD I' J' g n F (gR g n F k D i).1)) ∧ ∀ P, Wp L xs (d+2*F+7) 26 34 [some (.ref (72)), some (.ref (83)), some (.int (nI j))] [] (mk (rd I (i, 0)) J (rr R g n i) Z) P = Wp L xs (d+2*F+7) 26 59 [some (.ref (72)), some (.ref (83)), some (.int (x))] [] (mk (rd I' (gR g n F k D i).2) J' (rr R g n (gR g n F k D i).2.1) Z) P := by
  intro k
  induction k with
  | zero =>
    intro j D i I J hj hT hi hD
    have hj' : j = 1000 := by omega
    subst hj'
    refine ⟨I, J, nI 1000, ⟨rdF_r, hT, ⟨hi, by show 0 < 100000; omega⟩, fun _ => hD⟩, fun P => ?_⟩
    refine w26_34.trans ?_
    simp (discharger := omega) only [↓w26_1, ↓w26_4, ↓w26_5, ↓w26_6, ↓w26_9, ↓w26_10, ↓w26_11, ↓w26_14, ↓w26_15, ↓w26_16, ↓w26_19, ↓w26_20, ↓w26_23, ↓w26_24, ↓w26_27, ↓w26_28, ↓w26_29, ↓w26_32, ↓w26_33, ↓w26_35, ↓w26_38, ↓w26_41, ↓w26_42, ↓w26_45, ↓w26_48, ↓w26_49, ↓w26_50, ↓w26_53, ↓w26_56, ↓w26_60, ↓w26_63, ↓w26_66, ↓w26_67, ↓w26_68, ↓w26_71, ↓w26_74, ↓w26_75, ↓w26_78, mul8, mul8', mul4, mul4', nI_add, inT, nclN, ltT, ltF, leT, leF, eqT, eqF, nzF, m1F, m1T, shr, shg, bI0, bI1, bo_bI, bo_1, bo_0, eq10, eq00, frT1, frT2, frT3, fit0, fit1, fit2, fit3, true_and, and_true, ↓reduceIte, Nat.reduceAdd, Nat.reduceMul, and_self, not_false_eq_true, not_true_eq_false, Nat.zero_add, Nat.add_zero]
    exact Eq.refl _
  | succ k ih =>
    intro j D i I J hj hT hi hD
    have ok0 : okRs T (i, 0) := ⟨hi, by show 0 < 100000; omega⟩
    have io := fun P => k_isOver (L := L) (xs := xs) (d := d + 2 * F + 6) (P := P) (Z := Z) (s := (i, 0)) hT hn ok0
    by_cases hk : kd g n i = 0
    · have eg : gR g n F (k + 1) D i = (D, (i, 0)) := by rw [gR, if_pos hk]
      rw [eg]
      refine ⟨I, J, nI j, ⟨rdF_r, hT, ok0, fun _ => hD⟩, fun P => ?_⟩
      refine w26_34.trans ?_
      have b1 : (decide ((i, 0).2 ≠ 0) || decide (kd g n (i, 0).1 = 0)) = true := by simp [hk]
      rw [b1] at io
      simp (discharger := omega) only [↓w26_1, ↓w26_4, ↓w26_5, ↓w26_6, ↓w26_9, ↓w26_10, ↓w26_11, ↓w26_14, ↓w26_15, ↓w26_16, ↓w26_19, ↓w26_20, ↓w26_23, ↓w26_24, ↓w26_27, ↓w26_28, ↓w26_29, ↓w26_32, ↓w26_33, ↓w26_35, ↓w26_38, ↓w26_41, ↓w26_42, ↓w26_45, ↓w26_48, ↓w26_49, ↓w26_50, ↓w26_53, ↓w26_56, ↓w26_60, ↓w26_63, ↓w26_66, ↓w26_67, ↓w26_68, ↓w26_71, ↓w26_74, ↓w26_75, ↓w26_78, rc72, g72_0, g72_1, g72_2, p72_2, g72_3, p72_3, g72_4, p72_4, g72_5, p72_5, ↓io, bI_t, ↓kc_i, ↓kc_l, ↓kc_r, ↓kc_n, mul8, mul8', mul4, mul4', nI_add, inT, nclN, ltT, ltF, leT, leF, eqT, eqF, nzF, m1F, m1T, shr, shg, bI0, bI1, bo_bI, bo_1, bo_0, eq10, eq00, frT1, frT2, frT3, fit0, fit1, fit2, fit3, true_and, and_true, ↓reduceIte, Nat.reduceAdd, Nat.reduceMul, and_self, not_false_eq_true, not_true_eq_false, Nat.zero_add, Nat.add_zero]
    · have hlt : i < T := (cutT_lt hT hi).mp hk
      obtain ⟨I1, J1, ⟨h1, h2, h3⟩, h4⟩ := k_stat (L := L) (xs := xs) (d := d) (Z := Z) hT hn hg hlt hD hF
      have ok1 := stmS_ok (F := F) (D := D) hT hn hi
      have b1 : (decide ((i, 0).2 ≠ 0) || decide (kd g n (i, 0).1 = 0)) = false := by simp [hk]
      rw [b1] at io
      by_cases hf : (stmS g n F D i).2 = 0
      · have eg : gR g n F (k + 1) D i = gR g n F k (stmD g n D i) (stmS g n F D i).1 := by rw [gR, if_neg hk, if_neg (by simp [hf])]
        obtain ⟨I', J', x, ⟨h5, h6, h7, h7'⟩, h8⟩ := ih (j + 1) (stmD g n D i) (stmS g n F D i).1 I1 J1 (by omega) h2 ok1.1 (h3 hf)
        rw [eg]
        refine ⟨I', J', x, ⟨rdF_t h1 h5, h6, h7, h7'⟩, fun P => ?_⟩
        rw [← h8 P]
        refine w26_34.trans ?_
        rw [rs_0 hf] at h4
        dsimp only at h4
        simp (discharger := omega) only [↓w26_1, ↓w26_4, ↓w26_5, ↓w26_6, ↓w26_9, ↓w26_10, ↓w26_11, ↓w26_14, ↓w26_15, ↓w26_16, ↓w26_19, ↓w26_20, ↓w26_23, ↓w26_24, ↓w26_27, ↓w26_28, ↓w26_29, ↓w26_32, ↓w26_33, ↓w26_35, ↓w26_38, ↓w26_41, ↓w26_42, ↓w26_45, ↓w26_48, ↓w26_49, ↓w26_50, ↓w26_53, ↓w26_56, ↓w26_60, ↓w26_63, ↓w26_66, ↓w26_67, ↓w26_68, ↓w26_71, ↓w26_74, ↓w26_75, ↓w26_78, rc72, g72_0, g72_1, g72_2, p72_2, g72_3, p72_3, g72_4, p72_4, g72_5, p72_5, ↓io, bI_f, ↓h4, ↓kc_i, ↓kc_l, ↓kc_r, ↓kc_n, mul8, mul8', mul4, mul4', nI_add, inT, nclN, ltT, ltF, leT, leF, eqT, eqF, nzF, m1F, m1T, shr, shg, bI0, bI1, bo_bI, bo_1, bo_0, eq10, eq00, frT1, frT2, frT3, fit0, fit1, fit2, fit3, true_and, and_true, ↓reduceIte, Nat.reduceAdd, Nat.reduceMul, and_self, not_false_eq_true, not_true_eq_false, Nat.zero_add, Nat.add_zero]
      · have eg : gR g n F (k + 1) D i = (D, stmS g n F D i) := by rw [gR, if_neg hk, if_pos hf]
        rw [eg]
        refine ⟨I1, J1, nI (j + 1), ⟨h1, h2, ok1, fun z => absurd z hf⟩, fun P => ?_⟩
        refine w26_34.trans ?_
        simp (discharger := omega) only [↓w26_1, ↓w26_4, ↓w26_5, ↓w26_6, ↓w26_9, ↓w26_10, ↓w26_11, ↓w26_14, ↓w26_15, ↓w26_16, ↓w26_19, ↓w26_20, ↓w26_23, ↓w26_24, ↓w26_27, ↓w26_28, ↓w26_29, ↓w26_32, ↓w26_33, ↓w26_35, ↓w26_38, ↓w26_41, ↓w26_42, ↓w26_45, ↓w26_48, ↓w26_49, ↓w26_50, ↓w26_53, ↓w26_56, ↓w26_60, ↓w26_63, ↓w26_66, ↓w26_67, ↓w26_68, ↓w26_71, ↓w26_74, ↓w26_75, ↓w26_78, rc72, g72_0, g72_1, g72_2, p72_2, g72_3, p72_3, g72_4, p72_4, g72_5, p72_5, ↓io, bI_f, ↓h4, ↓kc_i, ↓kc_l, ↓kc_r, ↓kc_n, mul8, mul8', mul4, mul4', nI_add, inT, nclN, ltT, ltF, leT, leF, eqT, eqF, nzF, m1F, m1T, shr, shg, bI0, bI1, bo_bI, bo_1, bo_0, eq10, eq00, frT1, frT2, frT3, fit0, fit1, fit2, fit3, true_and, and_true, ↓reduceIte, Nat.reduceAdd, Nat.reduceMul, and_self, not_false_eq_true, not_true_eq_false, Nat.zero_add, Nat.add_zero]
        refine w26_34.trans ?_
        have io2 := fun P => k_isOver (L := L) (xs := xs) (d := d + 2 * F + 6) (P := P) (Z := Z) h2 hn ok1
        have b2 : (decide ((stmS g n F D i).2 ≠ 0) || decide (kd g n (stmS g n F D i).1 = 0)) = true := by simp [hf]
        rw [b2] at io2
        by_cases hj1 : j + 1 = 1000
        · simp (discharger := omega) only [↓w26_1, ↓w26_4, ↓w26_5, ↓w26_6, ↓w26_9, ↓w26_10, ↓w26_11, ↓w26_14, ↓w26_15, ↓w26_16, ↓w26_19, ↓w26_20, ↓w26_23, ↓w26_24, ↓w26_27, ↓w26_28, ↓w26_29, ↓w26_32, ↓w26_33, ↓w26_35, ↓w26_38, ↓w26_41, ↓w26_42, ↓w26_45, ↓w26_48, ↓w26_49, ↓w26_50, ↓w26_53, ↓w26_56, ↓w26_60, ↓w26_63, ↓w26_66, ↓w26_67, ↓w26_68, ↓w26_71, ↓w26_74, ↓w26_75, ↓w26_78, mul8, mul8', mul4, mul4', nI_add, inT, nclN, ltT, ltF, leT, leF, eqT, eqF, nzF, m1F, m1T, shr, shg, bI0, bI1, bo_bI, bo_1, bo_0, eq10, eq00, frT1, frT2, frT3, fit0, fit1, fit2, fit3, true_and, and_true, ↓reduceIte, Nat.reduceAdd, Nat.reduceMul, and_self, not_false_eq_true, not_true_eq_false, Nat.zero_add, Nat.add_zero]
        · simp (discharger := omega) only [↓w26_1, ↓w26_4, ↓w26_5, ↓w26_6, ↓w26_9, ↓w26_10, ↓w26_11, ↓w26_14, ↓w26_15, ↓w26_16, ↓w26_19, ↓w26_20, ↓w26_23, ↓w26_24, ↓w26_27, ↓w26_28, ↓w26_29, ↓w26_32, ↓w26_33, ↓w26_35, ↓w26_38, ↓w26_41, ↓w26_42, ↓w26_45, ↓w26_48, ↓w26_49, ↓w26_50, ↓w26_53, ↓w26_56, ↓w26_60, ↓w26_63, ↓w26_66, ↓w26_67, ↓w26_68, ↓w26_71, ↓w26_74, ↓w26_75, ↓w26_78, rc72, g72_0, g72_1, g72_2, p72_2, g72_3, p72_3, g72_4, p72_4, g72_5, p72_5, ↓io2, bI_t, ↓kc_i, ↓kc_l, ↓kc_r, ↓kc_n, mul8, mul8', mul4, mul4', nI_add, inT, nclN, ltT, ltF, leT, leF, eqT, eqF, nzF, m1F, m1T, shr, shg, bI0, bI1, bo_bI, bo_1, bo_0, eq10, eq00, frT1, frT2, frT3, fit0, fit1, fit2, fit3, true_and, and_true, ↓reduceIte, Nat.reduceAdd, Nat.reduceMul, and_self, not_false_eq_true, not_true_eq_false, Nat.zero_add, Nat.add_zero]
end G8
