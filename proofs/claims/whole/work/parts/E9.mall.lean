section M9
variable {L : Nat} {xs : Nat → Int32} {d : Nat} {P : Option Value → Hp → Prop} {I I' I2 : Mi} {J J' J2 : Mj} {R : Mr} {Z : Mz} {k n i j p w b m c lo hi K N M F r le T : Nat} {g : Nat → Nat} {y : Int64} {v : Int32} {D : Dg} {f : Bool} {Q : Nat → Er} {lv dep : Nat} {A B : Nat → Int64}
theorem lpE_pos : ∀ k (r : Er), 0 < r.2.2.1.length → 0 < (lpE g n lv Q k r).2.2.1.length := by
  intro k
  induction k with
  | zero => intro r h; exact h
  | succ k ih =>
    intro r h
    unfold lpE
    split
    · exact h
    · apply ih; simp only [List.length_append]; omega
theorem pE_pos : ∀ F lv dep i, (pE g n F lv dep i).2.1 = 0 → 0 < (pE g n F lv dep i).2.2.1.length := by
  intro F
  induction F with
  | zero => intro lv dep i h; exact absurd h (by show 1 + 16 * bg g n i ≠ 0; omega)
  | succ F ih =>
    intro lv dep i h
    rw [pE] at h ⊢
    by_cases h4 : 4 ≤ lv
    · rw [if_pos h4] at h ⊢
      unfold prtE at h ⊢
      split at h
      · exact absurd h (by show 1 + 16 * bg g n i ≠ 0; omega)
      · rename_i q1
        rw [if_neg q1]
        split at h
        · exact absurd h (by show 5 + 16 * bg g n i ≠ 0; omega)
        · rename_i q2
          rw [if_neg q2]
          split at h
          · rename_i q3; rw [if_pos q3]; simp
          · rename_i q3
            rw [if_neg q3]
            split at h
            · rename_i q4; rw [if_pos q4]; simp
            · rename_i q4
              rw [if_neg q4]
              split at h
              · rename_i q5; rw [if_pos q5]; simp
              · rename_i q5
                rw [if_neg q5]
                exact ih 0 (dep + 1) (i + 1) (tkS_i h).1
    · rw [if_neg h4] at h ⊢
      exact lpE_pos _ _ (ih _ _ i (lpE_0 _ _ h))
theorem pE_gt (h : (pE g n F lv dep i).2.1 = 0) : i < (pE g n F lv dep i).1 := by
  have h1 := pE_len F lv dep i h
  have h2 := pE_pos F lv dep i h
  omega
theorem pE_T (hn : n ≤ 1000) (hk : kd g n (i - 1) ≠ 0) (h0 : 0 < i) : (pE g n F lv dep i).1 ≤ 1000 := by
  obtain ⟨T, hTn, hT1, hT2⟩ := ex_T (g := g) (n := n)
  obtain ⟨Ic, Jc, Rc, hc⟩ := ex_cut hT1 hT2
  have hi0 : i ≤ T := by
    by_cases z : i ≤ T
    · exact z
    · exact absurd hT2 (kd_mono2 hk (by omega))
  have h1 : (pE g n F lv dep i).1 ≤ T := (pE_ok hc hn F lv dep i hi0).1
  omega
theorem m_readsClashes (hn : n ≤ 1000) (hF : 29 < F) (h : mTk I J g n i) (hk : kd g n i ≠ 0) (h28 : I 428 1 = nI 1000) (h0 : le = 0 → I 429 1 = nI 1000 ∧ I 420 19 = nI 1000) (h1 : le ≠ 0 → ∃ q, 0 < q ∧ q ≤ 1000 ∧ I 429 1 = nI (1000 + q)) : ∃ I' J', (mrF I J I' J' ∧ ((sLaw g n F le i).2 = 0 → mTk I' J' g n (sLaw g n F le i).1 ∧ I' 428 1 = nI 1000 ∧ I' 429 1 = nI (1000 + ((pE g n F 0 0 (i + 1)).1 - (i + 1))) ∧ (∀ k, k < (pE g n F 0 0 (i + 1)).1 - (i + 1) → I' 430 (1000 + k) = nI (mcd g n (i + 1 + k))) ∧ (∀ a, a ≠ 420 → (a < 428 ∨ 432 < a) → I' a = I a) ∧ J' 423 = J 423) ∧ ((sLaw g n F le i).2 ≠ 0 → I' 420 9 = nI (sLaw g n F le i).2)) ∧ ∀ P, Wp L xs (d+3) 197 0 [some (.ref (420))] [] (mk I J R Z) P = P (some (.int (bI (decide ((sLaw g n F le i).2 = 0))))) (mk I' J' R Z) := by
  by_cases hz : le = 0
  · obtain ⟨a29, a19⟩ := h0 hz
    obtain ⟨I1, J1, ⟨f1, f2, f3, f4⟩, f5⟩ := m_nx (R := R) (Z := Z) (L := L) (xs := xs) hn h
    have e3 : sA3 g n (le ≠ 0) i = (i + 1, 0) := sA3_0 hk (by simp [hz])
    have es : sLaw g n F le i = tkS g n 59 (er (pE g n F 0 0 (i + 1))) := by unfold sLaw sLv; rw [e3, if_pos rfl]
    have b28 : I1 428 = I 428 := f1.1 428 (by decide)
    have b19 : I1 420 19 = nI 1000 := by rw [f1.2.1 19 (by decide) (by decide) (by decide) (by decide) (by decide) (by decide), a19]
    have hT1 := mTk_o (a := 428) (φ := upd (I 428) 1 (nI 1000)) f4 (by decide) (by decide)
    obtain ⟨I2, J2, ⟨⟨g1, g2, g3, g4⟩, g5, g6⟩, g7⟩ := m_reads (L := L) (xs := xs) (d := d) (R := R) (Z := Z) (I0 := st I1 428 (upd (I 428) 1 (nI 1000))) (J0 := J1) (i0 := i + 1) hn hF hk (by omega) hT1 (by rw [st_ne (by decide)]; exact b19)
    have fr2 : mrF I J I2 J2 := by
      refine mrF_t (mrF_m f1) ⟨⟨fun a q1 q2 q3 => ?_, fun k a1 a2 a3 a4 a5 a6 a7 => ?_⟩, ⟨fun k hk => ?_, fun a q1 q2 k hk => ?_⟩, fun k hk => ?_, fun a q1 q2 => g3 a q1, g4⟩
      · rw [g1 a q1 (by omega) (by omega) (by omega), st_ne (by omega)]
      · rw [g2 k a1 a2 a3 a4 a5 a6 a7, st_ne (by decide)]
      · rw [g1 422 (by decide) (by decide) (by decide) (by decide), st_ne (by decide)]
      · rw [g1 a (by omega) (by omega) (by omega) (by omega), st_ne (by omega)]
      · rw [g3 423 (by decide)]
    rw [es]
    generalize hs : tkS g n 59 (er (pE g n F 0 0 (i + 1))) = s at *
    generalize pE g n F 0 0 (i + 1) = r at *
    by_cases q : s.2 = 0
    · obtain ⟨g8, g9, g10⟩ := g5 q
      have b429 : I2 429 = I 429 := by rw [g1 429 (by decide) (by decide) (by decide) (by decide), st_ne (by decide), f1.1 429 (by decide)]
      refine ⟨st I2 429 (upd (I 429) 1 (nI (1000 + (r.1 - (i + 1))))), J2, ⟨mrF_t fr2 ⟨⟨fun a q1 q2 q3 => st_ne (by omega), fun k _ _ _ _ _ _ _ => by rw [st_ne (by decide)]⟩, ⟨fun k _ => by rw [st_ne (by decide)], fun a q1 q2 k _ => by rw [st_ne (by omega)]⟩, fun _ _ => rfl, fun _ _ _ => rfl, fun _ _ => rfl⟩, fun _ => ⟨mTk_o g8 (by decide) (by decide), ?_, by rw [st_eq, upd_eq], fun k hk => by rw [st_ne (by decide)]; exact g10 k hk, fun a q1 q2 => ?_, by rw [g3 423 (by decide), f1.2.2.1 423 (by decide)]⟩, fun z => absurd q z⟩, fun P => ?_⟩
      · rw [st_ne (by decide), g1 428 (by decide) (by decide) (by decide) (by decide), st_eq, upd_eq]
      · rw [st_ne (by omega), g1 a q1 (by omega) (by omega) (by omega), st_ne (by omega), f1.1 a q1]
      · rw [decide_eq_true q, bI_t] at g7 ⊢
        simp (discharger := omega) only [↓w197_0, ↓w197_1, ↓w197_4, ↓w197_5, ↓w197_6, ↓w197_7, ↓w197_10, ↓w197_11, ↓w197_12, ↓w197_15, ↓w197_16, ↓w197_17, ↓w197_20, ↓w197_21, ↓w197_22, ↓w197_25, ↓w197_26, ↓w197_29, ↓w197_30, ↓w197_31, ↓w197_34, ↓w197_35, ↓w197_36, ↓w197_39, ↓w197_42, ↓w197_43, ↓w197_44, ↓w197_45, ↓w197_48, ↓w197_49, ↓w197_50, ↓w197_53, ↓w197_54, ↓w197_55, rc420, g420_0, p420_0, g420_1, p420_1, g420_2, g420_3, p420_3, g420_4, p420_4, g420_5, p420_5, g420_6, p420_6, g420_7, p420_7, g420_8, p420_8, g420_9, p420_9, g420_10, g420_11, g420_12, g420_13, g420_14, g420_15, g420_16, g420_17, g420_18, g420_19, p420_19, g420_20, g420_21, g420_22, g420_23, g420_24, g420_25, g420_26, g420_27, g420_28, g420_29, g420_30, g420_31, g420_32, p420_32, g420_33, g420_34, g420_35, g420_36, g420_37, g420_38, g420_39, g420_40, g420_41, g420_42, g420_43, g420_44, g420_45, g420_46, g420_47, p420_47, g420_48, g420_49, p420_49, gi428, si428, gi429, si429, a29, h28, ↓f5, b28, b19, ↓g7, b429, g9, ↓kc_i, ↓kc_l, ↓kc_r, ↓kc_n, mul8, mul8', mul4, mul4', nI_add, inT, nclN, ltT, ltF, leT, leF, eqT, eqF, nzF, m1F, m1T, shr, shg, bI0, bI1, bo_bI, bo_1, bo_0, eq10, eq00, frT1, frT2, frT3, fit0, fit1, fit2, fit3, true_and, and_true, ↓reduceIte, Nat.reduceAdd, Nat.reduceMul, and_self, not_false_eq_true, not_true_eq_false, Nat.zero_add, Nat.add_zero]
    · refine ⟨I2, J2, ⟨fr2, fun z => absurd z q, g6⟩, fun P => ?_⟩
      rw [decide_eq_false q, bI_f] at g7 ⊢
      simp (discharger := omega) only [↓w197_0, ↓w197_1, ↓w197_4, ↓w197_5, ↓w197_6, ↓w197_7, ↓w197_10, ↓w197_11, ↓w197_12, ↓w197_15, ↓w197_16, ↓w197_17, ↓w197_20, ↓w197_21, ↓w197_22, ↓w197_25, ↓w197_26, ↓w197_29, ↓w197_30, ↓w197_31, ↓w197_34, ↓w197_35, ↓w197_36, ↓w197_39, ↓w197_42, ↓w197_43, ↓w197_44, ↓w197_45, ↓w197_48, ↓w197_49, ↓w197_50, ↓w197_53, ↓w197_54, ↓w197_55, rc420, g420_0, p420_0, g420_1, p420_1, g420_2, g420_3, p420_3, g420_4, p420_4, g420_5, p420_5, g420_6, p420_6, g420_7, p420_7, g420_8, p420_8, g420_9, p420_9, g420_10, g420_11, g420_12, g420_13, g420_14, g420_15, g420_16, g420_17, g420_18, g420_19, p420_19, g420_20, g420_21, g420_22, g420_23, g420_24, g420_25, g420_26, g420_27, g420_28, g420_29, g420_30, g420_31, g420_32, p420_32, g420_33, g420_34, g420_35, g420_36, g420_37, g420_38, g420_39, g420_40, g420_41, g420_42, g420_43, g420_44, g420_45, g420_46, g420_47, p420_47, g420_48, g420_49, p420_49, gi428, si428, gi429, si429, a29, h28, ↓f5, b28, b19, ↓g7, ↓kc_i, ↓kc_l, ↓kc_r, ↓kc_n, mul8, mul8', mul4, mul4', nI_add, inT, nclN, ltT, ltF, leT, leF, eqT, eqF, nzF, m1F, m1T, shr, shg, bI0, bI1, bo_bI, bo_1, bo_0, eq10, eq00, frT1, frT2, frT3, fit0, fit1, fit2, fit3, true_and, and_true, ↓reduceIte, Nat.reduceAdd, Nat.reduceMul, and_self, not_false_eq_true, not_true_eq_false, Nat.zero_add, Nat.add_zero]
  · obtain ⟨q, q1, q2, q3⟩ := h1 hz
    have hw : ((i, 3 + 16 * bg g n i) : Rs).2 ≠ 0 := by show 3 + 16 * bg g n i ≠ 0; omega
    have es : sLaw g n F le i = (i, 3 + 16 * bg g n i) := by
      have e3 : sA3 g n (le ≠ 0) i = (i, 3 + 16 * bg g n i) := by unfold sA3; rw [if_pos hz, wr_0, ad_w (by decide)]
      unfold sLaw sLv
      rw [e3, if_neg hw]
      exact tkS_f hw
    have fl := fun P => m_fails (L := L) (xs := xs) (d := d + 2) (P := P) (J := J) (R := R) (Z := Z) (k := 3) h.2.2.1 (by decide)
    rw [es, dn (show 3 + 16 * bg g n i ≠ 0 by omega), bI_f]
    refine ⟨_, J, ⟨mrF_m (mF_9 (v := nI (3 + 16 * bg g n i))), fun z => absurd z hw, fun _ => by rw [st_eq, upd_eq]⟩, fun P => ?_⟩
    simp (discharger := omega) only [↓w197_0, ↓w197_1, ↓w197_4, ↓w197_5, ↓w197_6, ↓w197_7, ↓w197_10, ↓w197_11, ↓w197_12, ↓w197_15, ↓w197_16, ↓w197_17, ↓w197_20, ↓w197_21, ↓w197_22, ↓w197_25, ↓w197_26, ↓w197_29, ↓w197_30, ↓w197_31, ↓w197_34, ↓w197_35, ↓w197_36, ↓w197_39, ↓w197_42, ↓w197_43, ↓w197_44, ↓w197_45, ↓w197_48, ↓w197_49, ↓w197_50, ↓w197_53, ↓w197_54, ↓w197_55, rc420, g420_0, p420_0, g420_1, p420_1, g420_2, g420_3, p420_3, g420_4, p420_4, g420_5, p420_5, g420_6, p420_6, g420_7, p420_7, g420_8, p420_8, g420_9, p420_9, g420_10, g420_11, g420_12, g420_13, g420_14, g420_15, g420_16, g420_17, g420_18, g420_19, p420_19, g420_20, g420_21, g420_22, g420_23, g420_24, g420_25, g420_26, g420_27, g420_28, g420_29, g420_30, g420_31, g420_32, p420_32, g420_33, g420_34, g420_35, g420_36, g420_37, g420_38, g420_39, g420_40, g420_41, g420_42, g420_43, g420_44, g420_45, g420_46, g420_47, p420_47, g420_48, g420_49, p420_49, gi428, si428, gi429, si429, q3, h28, ↓fl, ↓kc_i, ↓kc_l, ↓kc_r, ↓kc_n, mul8, mul8', mul4, mul4', nI_add, inT, nclN, ltT, ltF, leT, leF, eqT, eqF, nzF, m1F, m1T, shr, shg, bI0, bI1, bo_bI, bo_1, bo_0, eq10, eq00, frT1, frT2, frT3, fit0, fit1, fit2, fit3, true_and, and_true, ↓reduceIte, Nat.reduceAdd, Nat.reduceMul, and_self, not_false_eq_true, not_true_eq_false, Nat.zero_add, Nat.add_zero]
theorem sNm_m (hW : WD g n F D) (hM : MD I J g n F D) (hnm : isNm g n (i + 1) = true) : sNm g n D i = (ff D.2.2.1 (fun c => decide (J 423 (8 + c) = lN (w27 g n (i + 1))))).isSome := by
  unfold sNm fndN
  rw [ff_cg (fun c hc => ?_)]
  have h1 := (hM.2.2.2.1 c hc).2.2.2.2
  rw [h1]
  have e := NmP_e (NmP_t (g := g) (n := n) (j := D.2.2.2.1 c + 1) (isNm_k (hW.2.2.2.1 c hc).1)) (NmP_t (g := g) (n := n) (j := i + 1) (isNm_k hnm))
  simp only [e]
theorem stm_gt (hk : kd g n i ≠ 0) (h : (stmS g n F D i).2 = 0) : i < (stmS g n F D i).1 := by
  unfold stmS at h ⊢
  split at h
  · rename_i q; rw [if_pos q, (sRep_i hk h).2.2.2.2]; show i < i + 3; omega
  · rename_i q
    rw [if_neg q]
    split at h
    · rename_i q; rw [if_pos q, (sKey_i hk h).2.2.2.2]; show i < i + 3; omega
    · rename_i q
      rw [if_neg q]
      split at h
      · rename_i q; rw [if_pos q, (sCmd_i hk h).2.2.2.2]; show i < i + 10; omega
      · rename_i q
        rw [if_neg q]
        split at h
        · rename_i q
          obtain ⟨-, z2, -, z4⟩ := sLaw_i hk h
          rw [if_pos q, z4]
          have := pE_ge z2
          show i < (pE g n F 0 0 (i + 1)).1 + 1
          omega
        · exact absurd h (wr_n0 (by decide))
theorem m_stat {x : Int32} (hn : n ≤ 1000) (hF : 29 < F) (h : mTk I J g n i) (hk : kd g n i ≠ 0) (hM : MD I J g n F D) (hW : WD g n F D) : ∃ I' J', (mrF I J I' J' ∧ ((stmS g n F D i).2 = 0 → mTk I' J' g n (stmS g n F D i).1 ∧ MD I' J' g n F (stmD g n D i)) ∧ ((stmS g n F D i).2 ≠ 0 → I' 420 9 = nI (stmS g n F D i).2)) ∧ ∀ P, Wp L xs (d+5) 199 58 [some (.ref (420)), some (.int (x))] [] (mk I J R Z) P = if (stmS g n F D i).2 = 0 then Wp L xs (d+5) 199 51 [some (.ref (420)), some (.int (nI 1))] [] (mk I' J' R Z) P else P (some (.int (nI 0))) (mk I' J' R Z) := by
  obtain ⟨m0, m1, m2, m3, m4, m5, m6⟩ := id hM
  have wd' := fun w (hw : w < 29) y (hy : y = lN (k27 w)) P => m_isWd (L := L) (xs := xs) (d := d + 4) (P := P) (R := R) (Z := Z) h hw hy
  have w0 := wd' 0 (by decide) (lN 190459599283) rfl
  have w1 := wd' 1 (by decide) (lN 220852) rfl
  have w2 := wd' 2 (by decide) (lN 1384660795) rfl
  have w6 := wd' 6 (by decide) (lN 1335359755) rfl
  unfold stmS stmD
  by_cases q0 : wd g n i = 0
  · rw [if_pos q0, if_pos q0]
    obtain ⟨I', J', ⟨f1, f2, f3⟩, f4⟩ := m_readsReplicas (L := L) (xs := xs) (d := d + 1) (R := R) (Z := Z) hn h hk m0.1 m0.2
    have d0 : decide (wd g n i = 0) = true := decide_eq_true q0
    refine ⟨I', J', ⟨f1, fun z => ?_, f3⟩, fun P => ?_⟩
    · obtain ⟨a1, a2, a3, a4, a5⟩ := f2 z
      obtain ⟨z1, -, -, z4, -⟩ := sRep_i hk z
      refine ⟨a1, ⟨by rw [a2, upd_eq], by show vl g n (i + 1) < 10; omega⟩, ⟨by rw [a2, upd_ne (by decide)]; exact m1.1, m1.2⟩, ⟨by rw [a2, upd_ne (by decide)]; exact m2.1, m2.2⟩, fun c hc => ?_, ?_, fun q => ?_, fun q => ?_⟩
      · rw [a3 424 (by decide) (by decide), a3 425 (by decide) (by decide), a3 426 (by decide) (by decide), a3 427 (by decide) (by decide), a5]; exact m3 c hc
      · rw [a3 428 (by decide) (by decide)]; exact m4
      · rw [a3 429 (by decide) (by decide), a4]; exact m5 q
      · rw [a3 429 (by decide) (by decide), a3 430 (by decide) (by decide)]; exact m6 q
    · by_cases z : (sRep g n D.1 i).2 = 0
      · rw [if_pos z]
        rw [decide_eq_true z, bI_t] at f4
        simp (discharger := omega) only [↓w199_0, ↓w199_1, ↓w199_3, ↓w199_4, ↓w199_7, ↓w199_8, ↓w199_11, ↓w199_12, ↓w199_13, ↓w199_14, ↓w199_15, ↓w199_16, ↓w199_19, ↓w199_22, ↓w199_23, ↓w199_26, ↓w199_27, ↓w199_30, ↓w199_31, ↓w199_32, ↓w199_35, ↓w199_36, ↓w199_39, ↓w199_40, ↓w199_41, ↓w199_44, ↓w199_47, ↓w199_48, ↓w199_52, ↓w199_55, ↓w199_58, ↓w199_59, ↓w199_62, ↓w199_65, ↓w199_68, ↓w199_69, ↓w199_72, ↓w199_75, ↓w199_76, ↓w199_79, ↓w199_82, ↓w199_85, ↓w199_86, ↓w199_89, ↓w199_92, ↓w199_93, ↓w199_96, ↓w199_99, ↓w199_102, ↓w199_103, ↓w199_106, ↓w199_109, ↓w199_110, ↓w199_113, ↓w199_116, ↓w199_119, ↓w199_120, ↓w199_123, ↓w199_126, ↓w199_127, ↓w199_128, ↓w199_131, ↓w199_132, ↓w199_133, ↓w199_136, ↓w199_137, ↓w199_138, ↓w199_141, ↓w199_142, rc420, g420_0, p420_0, g420_1, p420_1, g420_2, g420_3, p420_3, g420_4, p420_4, g420_5, p420_5, g420_6, p420_6, g420_7, p420_7, g420_8, p420_8, g420_9, p420_9, g420_10, g420_11, g420_12, g420_13, g420_14, g420_15, g420_16, g420_17, g420_18, g420_19, p420_19, g420_20, g420_21, g420_22, g420_23, g420_24, g420_25, g420_26, g420_27, g420_28, g420_29, g420_30, g420_31, g420_32, p420_32, g420_33, g420_34, g420_35, g420_36, g420_37, g420_38, g420_39, g420_40, g420_41, g420_42, g420_43, g420_44, g420_45, g420_46, g420_47, p420_47, g420_48, g420_49, p420_49, ↓w0, d0, bI_t, ↓f4, ↓kc_i, ↓kc_l, ↓kc_r, ↓kc_n, mul8, mul8', mul4, mul4', nI_add, inT, nclN, ltT, ltF, leT, leF, eqT, eqF, nzF, m1F, m1T, shr, shg, bI0, bI1, bo_bI, bo_1, bo_0, eq10, eq00, frT1, frT2, frT3, fit0, fit1, fit2, fit3, true_and, and_true, ↓reduceIte, Nat.reduceAdd, Nat.reduceMul, and_self, not_false_eq_true, not_true_eq_false, Nat.zero_add, Nat.add_zero]
      · rw [if_neg z]
        rw [decide_eq_false z, bI_f] at f4
        simp (discharger := omega) only [↓w199_0, ↓w199_1, ↓w199_3, ↓w199_4, ↓w199_7, ↓w199_8, ↓w199_11, ↓w199_12, ↓w199_13, ↓w199_14, ↓w199_15, ↓w199_16, ↓w199_19, ↓w199_22, ↓w199_23, ↓w199_26, ↓w199_27, ↓w199_30, ↓w199_31, ↓w199_32, ↓w199_35, ↓w199_36, ↓w199_39, ↓w199_40, ↓w199_41, ↓w199_44, ↓w199_47, ↓w199_48, ↓w199_52, ↓w199_55, ↓w199_58, ↓w199_59, ↓w199_62, ↓w199_65, ↓w199_68, ↓w199_69, ↓w199_72, ↓w199_75, ↓w199_76, ↓w199_79, ↓w199_82, ↓w199_85, ↓w199_86, ↓w199_89, ↓w199_92, ↓w199_93, ↓w199_96, ↓w199_99, ↓w199_102, ↓w199_103, ↓w199_106, ↓w199_109, ↓w199_110, ↓w199_113, ↓w199_116, ↓w199_119, ↓w199_120, ↓w199_123, ↓w199_126, ↓w199_127, ↓w199_128, ↓w199_131, ↓w199_132, ↓w199_133, ↓w199_136, ↓w199_137, ↓w199_138, ↓w199_141, ↓w199_142, rc420, g420_0, p420_0, g420_1, p420_1, g420_2, g420_3, p420_3, g420_4, p420_4, g420_5, p420_5, g420_6, p420_6, g420_7, p420_7, g420_8, p420_8, g420_9, p420_9, g420_10, g420_11, g420_12, g420_13, g420_14, g420_15, g420_16, g420_17, g420_18, g420_19, p420_19, g420_20, g420_21, g420_22, g420_23, g420_24, g420_25, g420_26, g420_27, g420_28, g420_29, g420_30, g420_31, g420_32, p420_32, g420_33, g420_34, g420_35, g420_36, g420_37, g420_38, g420_39, g420_40, g420_41, g420_42, g420_43, g420_44, g420_45, g420_46, g420_47, p420_47, g420_48, g420_49, p420_49, ↓w0, d0, bI_t, ↓f4, ↓kc_i, ↓kc_l, ↓kc_r, ↓kc_n, mul8, mul8', mul4, mul4', nI_add, inT, nclN, ltT, ltF, leT, leF, eqT, eqF, nzF, m1F, m1T, shr, shg, bI0, bI1, bo_bI, bo_1, bo_0, eq10, eq00, frT1, frT2, frT3, fit0, fit1, fit2, fit3, true_and, and_true, ↓reduceIte, Nat.reduceAdd, Nat.reduceMul, and_self, not_false_eq_true, not_true_eq_false, Nat.zero_add, Nat.add_zero]
  · rw [if_neg q0, if_neg q0]
    have d0 : decide (wd g n i = 0) = false := decide_eq_false q0
    by_cases q1 : wd g n i = 1
    · rw [if_pos q1, if_pos q1]
      obtain ⟨I', J', ⟨f1, f2, f3⟩, f4⟩ := m_readsKeys (L := L) (xs := xs) (d := d + 1) (R := R) (Z := Z) hn h hk m1.1 m1.2
      have d1 : decide (wd g n i = 1) = true := decide_eq_true q1
      refine ⟨I', J', ⟨f1, fun z => ?_, f3⟩, fun P => ?_⟩
      · obtain ⟨a1, a2, a3, a4, a5⟩ := f2 z
        obtain ⟨z1, -, -, z4, -⟩ := sKey_i hk z
        refine ⟨a1, ⟨by rw [a2, upd_ne (by decide)]; exact m0.1, m0.2⟩, ⟨by rw [a2, upd_eq], by show vl g n (i + 1) < 10; omega⟩, ⟨by rw [a2, upd_ne (by decide)]; exact m2.1, m2.2⟩, fun c hc => ?_, ?_, fun q => ?_, fun q => ?_⟩
        · rw [a3 424 (by decide) (by decide), a3 425 (by decide) (by decide), a3 426 (by decide) (by decide), a3 427 (by decide) (by decide), a5]; exact m3 c hc
        · rw [a3 428 (by decide) (by decide)]; exact m4
        · rw [a3 429 (by decide) (by decide), a4]; exact m5 q
        · rw [a3 429 (by decide) (by decide), a3 430 (by decide) (by decide)]; exact m6 q
      · by_cases z : (sKey g n D.2.1 i).2 = 0
        · rw [if_pos z]
          rw [decide_eq_true z, bI_t] at f4
          simp (discharger := omega) only [↓w199_0, ↓w199_1, ↓w199_3, ↓w199_4, ↓w199_7, ↓w199_8, ↓w199_11, ↓w199_12, ↓w199_13, ↓w199_14, ↓w199_15, ↓w199_16, ↓w199_19, ↓w199_22, ↓w199_23, ↓w199_26, ↓w199_27, ↓w199_30, ↓w199_31, ↓w199_32, ↓w199_35, ↓w199_36, ↓w199_39, ↓w199_40, ↓w199_41, ↓w199_44, ↓w199_47, ↓w199_48, ↓w199_52, ↓w199_55, ↓w199_58, ↓w199_59, ↓w199_62, ↓w199_65, ↓w199_68, ↓w199_69, ↓w199_72, ↓w199_75, ↓w199_76, ↓w199_79, ↓w199_82, ↓w199_85, ↓w199_86, ↓w199_89, ↓w199_92, ↓w199_93, ↓w199_96, ↓w199_99, ↓w199_102, ↓w199_103, ↓w199_106, ↓w199_109, ↓w199_110, ↓w199_113, ↓w199_116, ↓w199_119, ↓w199_120, ↓w199_123, ↓w199_126, ↓w199_127, ↓w199_128, ↓w199_131, ↓w199_132, ↓w199_133, ↓w199_136, ↓w199_137, ↓w199_138, ↓w199_141, ↓w199_142, rc420, g420_0, p420_0, g420_1, p420_1, g420_2, g420_3, p420_3, g420_4, p420_4, g420_5, p420_5, g420_6, p420_6, g420_7, p420_7, g420_8, p420_8, g420_9, p420_9, g420_10, g420_11, g420_12, g420_13, g420_14, g420_15, g420_16, g420_17, g420_18, g420_19, p420_19, g420_20, g420_21, g420_22, g420_23, g420_24, g420_25, g420_26, g420_27, g420_28, g420_29, g420_30, g420_31, g420_32, p420_32, g420_33, g420_34, g420_35, g420_36, g420_37, g420_38, g420_39, g420_40, g420_41, g420_42, g420_43, g420_44, g420_45, g420_46, g420_47, p420_47, g420_48, g420_49, p420_49, ↓w0, ↓w1, d0, d1, bI_f, bI_t, ↓f4, ↓kc_i, ↓kc_l, ↓kc_r, ↓kc_n, mul8, mul8', mul4, mul4', nI_add, inT, nclN, ltT, ltF, leT, leF, eqT, eqF, nzF, m1F, m1T, shr, shg, bI0, bI1, bo_bI, bo_1, bo_0, eq10, eq00, frT1, frT2, frT3, fit0, fit1, fit2, fit3, true_and, and_true, ↓reduceIte, Nat.reduceAdd, Nat.reduceMul, and_self, not_false_eq_true, not_true_eq_false, Nat.zero_add, Nat.add_zero]
        · rw [if_neg z]
          rw [decide_eq_false z, bI_f] at f4
          simp (discharger := omega) only [↓w199_0, ↓w199_1, ↓w199_3, ↓w199_4, ↓w199_7, ↓w199_8, ↓w199_11, ↓w199_12, ↓w199_13, ↓w199_14, ↓w199_15, ↓w199_16, ↓w199_19, ↓w199_22, ↓w199_23, ↓w199_26, ↓w199_27, ↓w199_30, ↓w199_31, ↓w199_32, ↓w199_35, ↓w199_36, ↓w199_39, ↓w199_40, ↓w199_41, ↓w199_44, ↓w199_47, ↓w199_48, ↓w199_52, ↓w199_55, ↓w199_58, ↓w199_59, ↓w199_62, ↓w199_65, ↓w199_68, ↓w199_69, ↓w199_72, ↓w199_75, ↓w199_76, ↓w199_79, ↓w199_82, ↓w199_85, ↓w199_86, ↓w199_89, ↓w199_92, ↓w199_93, ↓w199_96, ↓w199_99, ↓w199_102, ↓w199_103, ↓w199_106, ↓w199_109, ↓w199_110, ↓w199_113, ↓w199_116, ↓w199_119, ↓w199_120, ↓w199_123, ↓w199_126, ↓w199_127, ↓w199_128, ↓w199_131, ↓w199_132, ↓w199_133, ↓w199_136, ↓w199_137, ↓w199_138, ↓w199_141, ↓w199_142, rc420, g420_0, p420_0, g420_1, p420_1, g420_2, g420_3, p420_3, g420_4, p420_4, g420_5, p420_5, g420_6, p420_6, g420_7, p420_7, g420_8, p420_8, g420_9, p420_9, g420_10, g420_11, g420_12, g420_13, g420_14, g420_15, g420_16, g420_17, g420_18, g420_19, p420_19, g420_20, g420_21, g420_22, g420_23, g420_24, g420_25, g420_26, g420_27, g420_28, g420_29, g420_30, g420_31, g420_32, p420_32, g420_33, g420_34, g420_35, g420_36, g420_37, g420_38, g420_39, g420_40, g420_41, g420_42, g420_43, g420_44, g420_45, g420_46, g420_47, p420_47, g420_48, g420_49, p420_49, ↓w0, ↓w1, d0, d1, bI_f, bI_t, ↓f4, ↓kc_i, ↓kc_l, ↓kc_r, ↓kc_n, mul8, mul8', mul4, mul4', nI_add, inT, nclN, ltT, ltF, leT, leF, eqT, eqF, nzF, m1F, m1T, shr, shg, bI0, bI1, bo_bI, bo_1, bo_0, eq10, eq00, frT1, frT2, frT3, fit0, fit1, fit2, fit3, true_and, and_true, ↓reduceIte, Nat.reduceAdd, Nat.reduceMul, and_self, not_false_eq_true, not_true_eq_false, Nat.zero_add, Nat.add_zero]
    · rw [if_neg q1, if_neg q1]
      have d1 : decide (wd g n i = 1) = false := decide_eq_false q1
      by_cases q2 : wd g n i = 2
      · rw [if_pos q2, if_pos q2]
        obtain ⟨I', J', ⟨f1, f2, f3⟩, f4⟩ := m_readsCommand (L := L) (xs := xs) (d := d) (R := R) (Z := Z) (f := sNm g n D i) hn h hk m0.1 m0.2 m1.1 m1.2 m2.1 m2.2 (fun hnm => sNm_m hW hM hnm)
        have d2 : decide (wd g n i = 2) = true := decide_eq_true q2
        refine ⟨I', J', ⟨f1, fun z => ?_, f3⟩, fun P => ?_⟩
        · obtain ⟨a1, a2, a3, a4, a5, a6, a7, a8, a9⟩ := f2 z
          obtain ⟨z1, -, z3, -, -⟩ := sCmd_i hk z
          refine ⟨a1, ⟨by rw [a2, upd_ne (by decide)]; exact m0.1, m0.2⟩, ⟨by rw [a2, upd_ne (by decide)]; exact m1.1, m1.2⟩, ⟨by rw [a2, upd_eq], z1⟩, fun c hc => ?_, ?_, fun q => ?_, fun q => ?_⟩
          · unfold kD eD vD lD
            dsimp only
            by_cases e : c = D.2.2.1
            · have ev : va_n D.2.2.2.1 D.2.2.1 i c = i := if_pos e
              rw [ev, a3, a4, a5, a6, a7, e, upd_eq, upd_eq, upd_eq, upd_eq, updL_eq]
              exact ⟨rfl, rfl, rfl, rfl, rfl⟩
            · have hc2 : c < D.2.2.1 := by have : c < D.2.2.1 + 1 := hc; omega
              have ev : va_n D.2.2.2.1 D.2.2.1 i c = D.2.2.2.1 c := if_neg e
              rw [ev, a3, a4, a5, a6, a7, upd_ne (by omega), upd_ne (by omega), upd_ne (by omega), upd_ne (by omega), updL_ne (by omega)]
              exact m3 c hc2
          · rw [a8 428 (by decide) (by decide) (by decide)]; exact m4
          · rw [a8 429 (by decide) (by decide) (by decide), a9]; exact m5 q
          · rw [a8 429 (by decide) (by decide) (by decide), a8 430 (by decide) (by decide) (by decide)]; exact m6 q
        · by_cases z : (sCmd g n D.1 D.2.1 D.2.2.1 (sNm g n D i) i).2 = 0
          · rw [if_pos z]
            rw [decide_eq_true z, bI_t] at f4
            simp (discharger := omega) only [↓w199_0, ↓w199_1, ↓w199_3, ↓w199_4, ↓w199_7, ↓w199_8, ↓w199_11, ↓w199_12, ↓w199_13, ↓w199_14, ↓w199_15, ↓w199_16, ↓w199_19, ↓w199_22, ↓w199_23, ↓w199_26, ↓w199_27, ↓w199_30, ↓w199_31, ↓w199_32, ↓w199_35, ↓w199_36, ↓w199_39, ↓w199_40, ↓w199_41, ↓w199_44, ↓w199_47, ↓w199_48, ↓w199_52, ↓w199_55, ↓w199_58, ↓w199_59, ↓w199_62, ↓w199_65, ↓w199_68, ↓w199_69, ↓w199_72, ↓w199_75, ↓w199_76, ↓w199_79, ↓w199_82, ↓w199_85, ↓w199_86, ↓w199_89, ↓w199_92, ↓w199_93, ↓w199_96, ↓w199_99, ↓w199_102, ↓w199_103, ↓w199_106, ↓w199_109, ↓w199_110, ↓w199_113, ↓w199_116, ↓w199_119, ↓w199_120, ↓w199_123, ↓w199_126, ↓w199_127, ↓w199_128, ↓w199_131, ↓w199_132, ↓w199_133, ↓w199_136, ↓w199_137, ↓w199_138, ↓w199_141, ↓w199_142, rc420, g420_0, p420_0, g420_1, p420_1, g420_2, g420_3, p420_3, g420_4, p420_4, g420_5, p420_5, g420_6, p420_6, g420_7, p420_7, g420_8, p420_8, g420_9, p420_9, g420_10, g420_11, g420_12, g420_13, g420_14, g420_15, g420_16, g420_17, g420_18, g420_19, p420_19, g420_20, g420_21, g420_22, g420_23, g420_24, g420_25, g420_26, g420_27, g420_28, g420_29, g420_30, g420_31, g420_32, p420_32, g420_33, g420_34, g420_35, g420_36, g420_37, g420_38, g420_39, g420_40, g420_41, g420_42, g420_43, g420_44, g420_45, g420_46, g420_47, p420_47, g420_48, g420_49, p420_49, ↓w0, ↓w1, ↓w2, d0, d1, d2, bI_f, bI_t, ↓f4, ↓kc_i, ↓kc_l, ↓kc_r, ↓kc_n, mul8, mul8', mul4, mul4', nI_add, inT, nclN, ltT, ltF, leT, leF, eqT, eqF, nzF, m1F, m1T, shr, shg, bI0, bI1, bo_bI, bo_1, bo_0, eq10, eq00, frT1, frT2, frT3, fit0, fit1, fit2, fit3, true_and, and_true, ↓reduceIte, Nat.reduceAdd, Nat.reduceMul, and_self, not_false_eq_true, not_true_eq_false, Nat.zero_add, Nat.add_zero]
          · rw [if_neg z]
            rw [decide_eq_false z, bI_f] at f4
            simp (discharger := omega) only [↓w199_0, ↓w199_1, ↓w199_3, ↓w199_4, ↓w199_7, ↓w199_8, ↓w199_11, ↓w199_12, ↓w199_13, ↓w199_14, ↓w199_15, ↓w199_16, ↓w199_19, ↓w199_22, ↓w199_23, ↓w199_26, ↓w199_27, ↓w199_30, ↓w199_31, ↓w199_32, ↓w199_35, ↓w199_36, ↓w199_39, ↓w199_40, ↓w199_41, ↓w199_44, ↓w199_47, ↓w199_48, ↓w199_52, ↓w199_55, ↓w199_58, ↓w199_59, ↓w199_62, ↓w199_65, ↓w199_68, ↓w199_69, ↓w199_72, ↓w199_75, ↓w199_76, ↓w199_79, ↓w199_82, ↓w199_85, ↓w199_86, ↓w199_89, ↓w199_92, ↓w199_93, ↓w199_96, ↓w199_99, ↓w199_102, ↓w199_103, ↓w199_106, ↓w199_109, ↓w199_110, ↓w199_113, ↓w199_116, ↓w199_119, ↓w199_120, ↓w199_123, ↓w199_126, ↓w199_127, ↓w199_128, ↓w199_131, ↓w199_132, ↓w199_133, ↓w199_136, ↓w199_137, ↓w199_138, ↓w199_141, ↓w199_142, rc420, g420_0, p420_0, g420_1, p420_1, g420_2, g420_3, p420_3, g420_4, p420_4, g420_5, p420_5, g420_6, p420_6, g420_7, p420_7, g420_8, p420_8, g420_9, p420_9, g420_10, g420_11, g420_12, g420_13, g420_14, g420_15, g420_16, g420_17, g420_18, g420_19, p420_19, g420_20, g420_21, g420_22, g420_23, g420_24, g420_25, g420_26, g420_27, g420_28, g420_29, g420_30, g420_31, g420_32, p420_32, g420_33, g420_34, g420_35, g420_36, g420_37, g420_38, g420_39, g420_40, g420_41, g420_42, g420_43, g420_44, g420_45, g420_46, g420_47, p420_47, g420_48, g420_49, p420_49, ↓w0, ↓w1, ↓w2, d0, d1, d2, bI_f, bI_t, ↓f4, ↓kc_i, ↓kc_l, ↓kc_r, ↓kc_n, mul8, mul8', mul4, mul4', nI_add, inT, nclN, ltT, ltF, leT, leF, eqT, eqF, nzF, m1F, m1T, shr, shg, bI0, bI1, bo_bI, bo_1, bo_0, eq10, eq00, frT1, frT2, frT3, fit0, fit1, fit2, fit3, true_and, and_true, ↓reduceIte, Nat.reduceAdd, Nat.reduceMul, and_self, not_false_eq_true, not_true_eq_false, Nat.zero_add, Nat.add_zero]
      · rw [if_neg q2, if_neg q2]
        have d2 : decide (wd g n i = 2) = false := decide_eq_false q2
        by_cases q6 : wd g n i = 6
        · rw [if_pos q6]
          have d6 : decide (wd g n i = 6) = true := decide_eq_true q6
          obtain ⟨I', J', ⟨f1, f2, f3⟩, f4⟩ := m_readsClashes (L := L) (xs := xs) (d := d + 1) (R := R) (Z := Z) (le := D.2.2.2.2) hn hF h hk m4 m5 (fun q => ⟨_, by have := (m6 q).1; omega, by have := (m6 q).1; omega, (m6 q).2.1⟩)
          refine ⟨I', J', ⟨f1, fun z => ?_, f3⟩, fun P => ?_⟩
          · obtain ⟨a1, a2, a3, a4, a5, a6⟩ := f2 z
            obtain ⟨z1, z2, -, -⟩ := sLaw_i hk z
            refine ⟨a1, ⟨by rw [a5 422 (by decide) (by decide)]; exact m0.1, m0.2⟩, ⟨by rw [a5 422 (by decide) (by decide)]; exact m1.1, m1.2⟩, ⟨by rw [a5 422 (by decide) (by decide)]; exact m2.1, m2.2⟩, fun c hc => ?_, a2, fun q => absurd q (by show i + 1 ≠ 0; omega), fun _ => ⟨⟨pE_gt z2, pE_T hn hk (by omega)⟩, a3, a4⟩⟩
            rw [a5 424 (by decide) (by decide), a5 425 (by decide) (by decide), a5 426 (by decide) (by decide), a5 427 (by decide) (by decide), a6]; exact m3 c hc
          · by_cases z : (sLaw g n F D.2.2.2.2 i).2 = 0
            · rw [if_pos z]
              rw [decide_eq_true z, bI_t] at f4
              simp (discharger := omega) only [↓w199_0, ↓w199_1, ↓w199_3, ↓w199_4, ↓w199_7, ↓w199_8, ↓w199_11, ↓w199_12, ↓w199_13, ↓w199_14, ↓w199_15, ↓w199_16, ↓w199_19, ↓w199_22, ↓w199_23, ↓w199_26, ↓w199_27, ↓w199_30, ↓w199_31, ↓w199_32, ↓w199_35, ↓w199_36, ↓w199_39, ↓w199_40, ↓w199_41, ↓w199_44, ↓w199_47, ↓w199_48, ↓w199_52, ↓w199_55, ↓w199_58, ↓w199_59, ↓w199_62, ↓w199_65, ↓w199_68, ↓w199_69, ↓w199_72, ↓w199_75, ↓w199_76, ↓w199_79, ↓w199_82, ↓w199_85, ↓w199_86, ↓w199_89, ↓w199_92, ↓w199_93, ↓w199_96, ↓w199_99, ↓w199_102, ↓w199_103, ↓w199_106, ↓w199_109, ↓w199_110, ↓w199_113, ↓w199_116, ↓w199_119, ↓w199_120, ↓w199_123, ↓w199_126, ↓w199_127, ↓w199_128, ↓w199_131, ↓w199_132, ↓w199_133, ↓w199_136, ↓w199_137, ↓w199_138, ↓w199_141, ↓w199_142, rc420, g420_0, p420_0, g420_1, p420_1, g420_2, g420_3, p420_3, g420_4, p420_4, g420_5, p420_5, g420_6, p420_6, g420_7, p420_7, g420_8, p420_8, g420_9, p420_9, g420_10, g420_11, g420_12, g420_13, g420_14, g420_15, g420_16, g420_17, g420_18, g420_19, p420_19, g420_20, g420_21, g420_22, g420_23, g420_24, g420_25, g420_26, g420_27, g420_28, g420_29, g420_30, g420_31, g420_32, p420_32, g420_33, g420_34, g420_35, g420_36, g420_37, g420_38, g420_39, g420_40, g420_41, g420_42, g420_43, g420_44, g420_45, g420_46, g420_47, p420_47, g420_48, g420_49, p420_49, ↓w0, ↓w1, ↓w2, ↓w6, d0, d1, d2, d6, bI_f, bI_t, ↓f4, ↓kc_i, ↓kc_l, ↓kc_r, ↓kc_n, mul8, mul8', mul4, mul4', nI_add, inT, nclN, ltT, ltF, leT, leF, eqT, eqF, nzF, m1F, m1T, shr, shg, bI0, bI1, bo_bI, bo_1, bo_0, eq10, eq00, frT1, frT2, frT3, fit0, fit1, fit2, fit3, true_and, and_true, ↓reduceIte, Nat.reduceAdd, Nat.reduceMul, and_self, not_false_eq_true, not_true_eq_false, Nat.zero_add, Nat.add_zero]
            · rw [if_neg z]
              rw [decide_eq_false z, bI_f] at f4
              simp (discharger := omega) only [↓w199_0, ↓w199_1, ↓w199_3, ↓w199_4, ↓w199_7, ↓w199_8, ↓w199_11, ↓w199_12, ↓w199_13, ↓w199_14, ↓w199_15, ↓w199_16, ↓w199_19, ↓w199_22, ↓w199_23, ↓w199_26, ↓w199_27, ↓w199_30, ↓w199_31, ↓w199_32, ↓w199_35, ↓w199_36, ↓w199_39, ↓w199_40, ↓w199_41, ↓w199_44, ↓w199_47, ↓w199_48, ↓w199_52, ↓w199_55, ↓w199_58, ↓w199_59, ↓w199_62, ↓w199_65, ↓w199_68, ↓w199_69, ↓w199_72, ↓w199_75, ↓w199_76, ↓w199_79, ↓w199_82, ↓w199_85, ↓w199_86, ↓w199_89, ↓w199_92, ↓w199_93, ↓w199_96, ↓w199_99, ↓w199_102, ↓w199_103, ↓w199_106, ↓w199_109, ↓w199_110, ↓w199_113, ↓w199_116, ↓w199_119, ↓w199_120, ↓w199_123, ↓w199_126, ↓w199_127, ↓w199_128, ↓w199_131, ↓w199_132, ↓w199_133, ↓w199_136, ↓w199_137, ↓w199_138, ↓w199_141, ↓w199_142, rc420, g420_0, p420_0, g420_1, p420_1, g420_2, g420_3, p420_3, g420_4, p420_4, g420_5, p420_5, g420_6, p420_6, g420_7, p420_7, g420_8, p420_8, g420_9, p420_9, g420_10, g420_11, g420_12, g420_13, g420_14, g420_15, g420_16, g420_17, g420_18, g420_19, p420_19, g420_20, g420_21, g420_22, g420_23, g420_24, g420_25, g420_26, g420_27, g420_28, g420_29, g420_30, g420_31, g420_32, p420_32, g420_33, g420_34, g420_35, g420_36, g420_37, g420_38, g420_39, g420_40, g420_41, g420_42, g420_43, g420_44, g420_45, g420_46, g420_47, p420_47, g420_48, g420_49, p420_49, ↓w0, ↓w1, ↓w2, ↓w6, d0, d1, d2, d6, bI_f, bI_t, ↓f4, ↓kc_i, ↓kc_l, ↓kc_r, ↓kc_n, mul8, mul8', mul4, mul4', nI_add, inT, nclN, ltT, ltF, leT, leF, eqT, eqF, nzF, m1F, m1T, shr, shg, bI0, bI1, bo_bI, bo_1, bo_0, eq10, eq00, frT1, frT2, frT3, fit0, fit1, fit2, fit3, true_and, and_true, ↓reduceIte, Nat.reduceAdd, Nat.reduceMul, and_self, not_false_eq_true, not_true_eq_false, Nat.zero_add, Nat.add_zero]
        · rw [if_neg q6]
          have d6 : decide (wd g n i = 6) = false := decide_eq_false q6
          have fl := fun P => m_fails (L := L) (xs := xs) (d := d + 4) (P := P) (J := J) (R := R) (Z := Z) (k := 1) h.2.2.1 (by decide)
          rw [wr_0]
          have hw : 1 + 16 * bg g n i ≠ 0 := by omega
          refine ⟨_, J, ⟨mrF_m (mF_9 (v := nI (1 + 16 * bg g n i))), fun z => absurd z hw, fun _ => by rw [st_eq, upd_eq]⟩, fun P => ?_⟩
          rw [if_neg hw]
          simp (discharger := omega) only [↓w199_0, ↓w199_1, ↓w199_3, ↓w199_4, ↓w199_7, ↓w199_8, ↓w199_11, ↓w199_12, ↓w199_13, ↓w199_14, ↓w199_15, ↓w199_16, ↓w199_19, ↓w199_22, ↓w199_23, ↓w199_26, ↓w199_27, ↓w199_30, ↓w199_31, ↓w199_32, ↓w199_35, ↓w199_36, ↓w199_39, ↓w199_40, ↓w199_41, ↓w199_44, ↓w199_47, ↓w199_48, ↓w199_52, ↓w199_55, ↓w199_58, ↓w199_59, ↓w199_62, ↓w199_65, ↓w199_68, ↓w199_69, ↓w199_72, ↓w199_75, ↓w199_76, ↓w199_79, ↓w199_82, ↓w199_85, ↓w199_86, ↓w199_89, ↓w199_92, ↓w199_93, ↓w199_96, ↓w199_99, ↓w199_102, ↓w199_103, ↓w199_106, ↓w199_109, ↓w199_110, ↓w199_113, ↓w199_116, ↓w199_119, ↓w199_120, ↓w199_123, ↓w199_126, ↓w199_127, ↓w199_128, ↓w199_131, ↓w199_132, ↓w199_133, ↓w199_136, ↓w199_137, ↓w199_138, ↓w199_141, ↓w199_142, rc420, g420_0, p420_0, g420_1, p420_1, g420_2, g420_3, p420_3, g420_4, p420_4, g420_5, p420_5, g420_6, p420_6, g420_7, p420_7, g420_8, p420_8, g420_9, p420_9, g420_10, g420_11, g420_12, g420_13, g420_14, g420_15, g420_16, g420_17, g420_18, g420_19, p420_19, g420_20, g420_21, g420_22, g420_23, g420_24, g420_25, g420_26, g420_27, g420_28, g420_29, g420_30, g420_31, g420_32, p420_32, g420_33, g420_34, g420_35, g420_36, g420_37, g420_38, g420_39, g420_40, g420_41, g420_42, g420_43, g420_44, g420_45, g420_46, g420_47, p420_47, g420_48, g420_49, p420_49, ↓w0, ↓w1, ↓w2, ↓w6, d0, d1, d2, d6, bI_f, ↓fl, ↓kc_i, ↓kc_l, ↓kc_r, ↓kc_n, mul8, mul8', mul4, mul4', nI_add, inT, nclN, ltT, ltF, leT, leF, eqT, eqF, nzF, m1F, m1T, shr, shg, bI0, bI1, bo_bI, bo_1, bo_0, eq10, eq00, frT1, frT2, frT3, fit0, fit1, fit2, fit3, true_and, and_true, ↓reduceIte, Nat.reduceAdd, Nat.reduceMul, and_self, not_false_eq_true, not_true_eq_false, Nat.zero_add, Nat.add_zero]
theorem m_all (hn : n ≤ 1000) (hF : 29 < F) (hT1 : ∀ i, i < T → kd g n i ≠ 0) (hT2 : kd g n T = 0) : ∀ k D i (I : Mi) (J : Mj) (x : Int32), T - i ≤ k → i ≤ T → mTk I J g n i → MD I J g n F D → WD g n F D → ∃ I' J', (mrF I J I' J' ∧ ((gR g n F k D i).2.2 = 0 → MD I' J' g n F (gR g n F k D i).1) ∧ ((gR g n F k D i).2.2 ≠ 0 → I' 420 9 = nI (gR g n F k D i).2.2)) ∧ ∀ P, Wp L xs (d+5) 199 51 [some (.ref (420)), some (.int (x))] [] (mk I J R Z) P = P (some (.int (bI (decide ((gR g n F k D i).2.2 = 0))))) (mk I' J' R Z) := by
  obtain ⟨Ic, Jc, Rc, hc⟩ := ex_cut hT1 hT2
  intro k
  induction k with
  | zero =>
    intro D i I J x hk hi h hM hW
    have hiT : i = T := by omega
    have h6 : I 420 6 = nI 0 := by rw [h.2.2.2.1, hiT, hT2]
    refine ⟨I, J, ⟨mrF_r, fun _ => hM, fun z => absurd rfl z⟩, fun P => ?_⟩
    refine w199_51.trans ?_
    simp (discharger := omega) only [↓w199_0, ↓w199_1, ↓w199_3, ↓w199_4, ↓w199_7, ↓w199_8, ↓w199_11, ↓w199_12, ↓w199_13, ↓w199_14, ↓w199_15, ↓w199_16, ↓w199_19, ↓w199_22, ↓w199_23, ↓w199_26, ↓w199_27, ↓w199_30, ↓w199_31, ↓w199_32, ↓w199_35, ↓w199_36, ↓w199_39, ↓w199_40, ↓w199_41, ↓w199_44, ↓w199_47, ↓w199_48, ↓w199_52, ↓w199_55, ↓w199_59, ↓w199_62, ↓w199_65, ↓w199_68, ↓w199_69, ↓w199_72, ↓w199_75, ↓w199_76, ↓w199_79, ↓w199_82, ↓w199_85, ↓w199_86, ↓w199_89, ↓w199_92, ↓w199_93, ↓w199_96, ↓w199_99, ↓w199_102, ↓w199_103, ↓w199_106, ↓w199_109, ↓w199_110, ↓w199_113, ↓w199_116, ↓w199_119, ↓w199_120, ↓w199_123, ↓w199_126, ↓w199_127, ↓w199_128, ↓w199_131, ↓w199_132, ↓w199_133, ↓w199_136, ↓w199_137, ↓w199_138, ↓w199_141, ↓w199_142, rc420, g420_0, p420_0, g420_1, p420_1, g420_2, g420_3, p420_3, g420_4, p420_4, g420_5, p420_5, g420_6, p420_6, g420_7, p420_7, g420_8, p420_8, g420_9, p420_9, g420_10, g420_11, g420_12, g420_13, g420_14, g420_15, g420_16, g420_17, g420_18, g420_19, p420_19, g420_20, g420_21, g420_22, g420_23, g420_24, g420_25, g420_26, g420_27, g420_28, g420_29, g420_30, g420_31, g420_32, p420_32, g420_33, g420_34, g420_35, g420_36, g420_37, g420_38, g420_39, g420_40, g420_41, g420_42, g420_43, g420_44, g420_45, g420_46, g420_47, p420_47, g420_48, g420_49, p420_49, h6, mul8, mul8', mul4, mul4', nI_add, inT, nclN, ltT, ltF, leT, leF, eqT, eqF, nzF, m1F, m1T, shr, shg, bI0, bI1, bo_bI, bo_1, bo_0, eq10, eq00, frT1, frT2, frT3, fit0, fit1, fit2, fit3, true_and, and_true, ↓reduceIte, Nat.reduceAdd, Nat.reduceMul, and_self, not_false_eq_true, not_true_eq_false, Nat.zero_add, Nat.add_zero]
    rfl
  | succ k ih =>
    intro D i I J x hk hi h hM hW
    by_cases hz : kd g n i = 0
    · have h6 : I 420 6 = nI 0 := by rw [h.2.2.2.1, hz]
      have eg : gR g n F (k + 1) D i = (D, (i, 0)) := by rw [gR, if_pos hz]
      rw [eg]
      refine ⟨I, J, ⟨mrF_r, fun _ => hM, fun z => absurd rfl z⟩, fun P => ?_⟩
      refine w199_51.trans ?_
      simp (discharger := omega) only [↓w199_0, ↓w199_1, ↓w199_3, ↓w199_4, ↓w199_7, ↓w199_8, ↓w199_11, ↓w199_12, ↓w199_13, ↓w199_14, ↓w199_15, ↓w199_16, ↓w199_19, ↓w199_22, ↓w199_23, ↓w199_26, ↓w199_27, ↓w199_30, ↓w199_31, ↓w199_32, ↓w199_35, ↓w199_36, ↓w199_39, ↓w199_40, ↓w199_41, ↓w199_44, ↓w199_47, ↓w199_48, ↓w199_52, ↓w199_55, ↓w199_59, ↓w199_62, ↓w199_65, ↓w199_68, ↓w199_69, ↓w199_72, ↓w199_75, ↓w199_76, ↓w199_79, ↓w199_82, ↓w199_85, ↓w199_86, ↓w199_89, ↓w199_92, ↓w199_93, ↓w199_96, ↓w199_99, ↓w199_102, ↓w199_103, ↓w199_106, ↓w199_109, ↓w199_110, ↓w199_113, ↓w199_116, ↓w199_119, ↓w199_120, ↓w199_123, ↓w199_126, ↓w199_127, ↓w199_128, ↓w199_131, ↓w199_132, ↓w199_133, ↓w199_136, ↓w199_137, ↓w199_138, ↓w199_141, ↓w199_142, rc420, g420_0, p420_0, g420_1, p420_1, g420_2, g420_3, p420_3, g420_4, p420_4, g420_5, p420_5, g420_6, p420_6, g420_7, p420_7, g420_8, p420_8, g420_9, p420_9, g420_10, g420_11, g420_12, g420_13, g420_14, g420_15, g420_16, g420_17, g420_18, g420_19, p420_19, g420_20, g420_21, g420_22, g420_23, g420_24, g420_25, g420_26, g420_27, g420_28, g420_29, g420_30, g420_31, g420_32, p420_32, g420_33, g420_34, g420_35, g420_36, g420_37, g420_38, g420_39, g420_40, g420_41, g420_42, g420_43, g420_44, g420_45, g420_46, g420_47, p420_47, g420_48, g420_49, p420_49, h6, mul8, mul8', mul4, mul4', nI_add, inT, nclN, ltT, ltF, leT, leF, eqT, eqF, nzF, m1F, m1T, shr, shg, bI0, bI1, bo_bI, bo_1, bo_0, eq10, eq00, frT1, frT2, frT3, fit0, fit1, fit2, fit3, true_and, and_true, ↓reduceIte, Nat.reduceAdd, Nat.reduceMul, and_self, not_false_eq_true, not_true_eq_false, Nat.zero_add, Nat.add_zero]
      rfl
    · have hk4 := kd_4 (g := g) (n := n) (i := i)
      have h6 : I 420 6 = nI (kd g n i) := h.2.2.2.1
      have z6 : (nI (kd g n i) = nI 0) = False := eqF hz (by omega) (by decide)
      obtain ⟨I1, J1, ⟨f1, f2, f3⟩, f4⟩ := m_stat (L := L) (xs := xs) (d := d) (R := R) (Z := Z) (x := x) hn hF h hz hM hW
      have hhead : ∀ P, Wp L xs (d+5) 199 51 [some (.ref (420)), some (.int (x))] [] (mk I J R Z) P = Wp L xs (d+5) 199 58 [some (.ref (420)), some (.int (x))] [] (mk I J R Z) P := fun P => by
        refine w199_51.trans ?_
        simp (discharger := omega) only [↓w199_0, ↓w199_1, ↓w199_3, ↓w199_4, ↓w199_7, ↓w199_8, ↓w199_11, ↓w199_12, ↓w199_13, ↓w199_14, ↓w199_15, ↓w199_16, ↓w199_19, ↓w199_22, ↓w199_23, ↓w199_26, ↓w199_27, ↓w199_30, ↓w199_31, ↓w199_32, ↓w199_35, ↓w199_36, ↓w199_39, ↓w199_40, ↓w199_41, ↓w199_44, ↓w199_47, ↓w199_48, ↓w199_52, ↓w199_55, ↓w199_59, ↓w199_62, ↓w199_65, ↓w199_68, ↓w199_69, ↓w199_72, ↓w199_75, ↓w199_76, ↓w199_79, ↓w199_82, ↓w199_85, ↓w199_86, ↓w199_89, ↓w199_92, ↓w199_93, ↓w199_96, ↓w199_99, ↓w199_102, ↓w199_103, ↓w199_106, ↓w199_109, ↓w199_110, ↓w199_113, ↓w199_116, ↓w199_119, ↓w199_120, ↓w199_123, ↓w199_126, ↓w199_127, ↓w199_128, ↓w199_131, ↓w199_132, ↓w199_133, ↓w199_136, ↓w199_137, ↓w199_138, ↓w199_141, ↓w199_142, rc420, g420_0, p420_0, g420_1, p420_1, g420_2, g420_3, p420_3, g420_4, p420_4, g420_5, p420_5, g420_6, p420_6, g420_7, p420_7, g420_8, p420_8, g420_9, p420_9, g420_10, g420_11, g420_12, g420_13, g420_14, g420_15, g420_16, g420_17, g420_18, g420_19, p420_19, g420_20, g420_21, g420_22, g420_23, g420_24, g420_25, g420_26, g420_27, g420_28, g420_29, g420_30, g420_31, g420_32, p420_32, g420_33, g420_34, g420_35, g420_36, g420_37, g420_38, g420_39, g420_40, g420_41, g420_42, g420_43, g420_44, g420_45, g420_46, g420_47, p420_47, g420_48, g420_49, p420_49, h6, z6, mul8, mul8', mul4, mul4', nI_add, inT, nclN, ltT, ltF, leT, leF, eqT, eqF, nzF, m1F, m1T, shr, shg, bI0, bI1, bo_bI, bo_1, bo_0, eq10, eq00, frT1, frT2, frT3, fit0, fit1, fit2, fit3, true_and, and_true, ↓reduceIte, Nat.reduceAdd, Nat.reduceMul, and_self, not_false_eq_true, not_true_eq_false, Nat.zero_add, Nat.add_zero]
      by_cases hs : (stmS g n F D i).2 = 0
      · have eg : gR g n F (k + 1) D i = gR g n F k (stmD g n D i) (stmS g n F D i).1 := by rw [gR, if_neg hz, if_neg (by simp [hs])]
        rw [eg]
        have hgt := stm_gt hz hs
        have hok := stmS_ok (F := F) (D := D) hc hn hi
        obtain ⟨g1, g2⟩ := f2 hs
        obtain ⟨I', J', ⟨e1, e2, e3⟩, e4⟩ := ih (stmD g n D i) (stmS g n F D i).1 I1 J1 (nI 1) (by omega) hok.1 g1 g2 (stm_wd hz hW hs)
        refine ⟨I', J', ⟨mrF_t f1 e1, e2, e3⟩, fun P => ?_⟩
        rw [hhead, f4, if_pos hs, e4]
      · have eg : gR g n F (k + 1) D i = (D, stmS g n F D i) := by rw [gR, if_neg hz, if_pos hs]
        rw [eg]
        refine ⟨I1, J1, ⟨f1, fun z => absurd z hs, f3⟩, fun P => ?_⟩
        rw [hhead, f4, if_neg hs, decide_eq_false hs, bI_f]
end M9
