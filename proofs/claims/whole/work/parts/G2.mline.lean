/-! the model's line whole -/
section N9
variable {L : Nat} {xs : Nat → Int32} {d : Nat} {P : Option Value → Hp → Prop} {I I' I2 : Mi} {J J' J2 : Mj} {R : Mr} {Z : Mz} {k n i j p w b m c lo hi K N M F r a W q : Nat} {g : Nat → Nat} {y : Int64} {v x : Int32} {f bb : Bool} {A B : Nat → Int64} {Q : Wq}
theorem m_readsLine (hn : n ≤ 1000) (h : mTk I J g n i) (hk : kd g n i ≠ 0) (h0 : I 422 0 = nI N) (hN : N < 10) (h2 : I 422 2 = nI M) (hM : M ≤ 8) (hm : m ≤ 40) (hQ : WoM I 5 m Q) (hf : isNm g n (i + 1) = true → lnF g n A M i = ff M (fun c => decide (J 423 c = lN (w27 g n (i + 1))))) : ∃ I' J', (mlF I J I' J' ∧ ((lnS g n N (lnF g n A M i).isSome m i).2 = 0 → mTk I' J' g n (lnS g n N (lnF g n A M i).isSome m i).1 ∧ WoM I' 5 (m + 1) (lnQ g n A M Q m i)) ∧ ((lnS g n N (lnF g n A M i).isSome m i).2 ≠ 0 → I' 420 9 = nI (lnS g n N (lnF g n A M i).isSome m i).2)) ∧ ∀ P, Wp L xs (d+3) 204 0 [some (.ref (420)), none, none] [] (mk I J R Z) P = P (some (.int (bI (decide ((lnS g n N (lnF g n A M i).isSome m i).2 = 0))))) (mk I' J' R Z) := by
  have hwl := wd_lt (g := g) (n := n) (i := i)
  have hsi := st_iff hwl
  have ls := fun P => m_lineSort (L := L) (xs := xs) (d := d + 1) (P := P) (R := R) (Z := Z) h
  by_cases q1 : wSo (wd g n i) = nI 1
  · obtain ⟨q10, q20⟩ := hsi.mp q1
    have hW : lnW g n i ≤ 10 := by unfold lnW; omega
    have els : lsV (wd g n i) = nI (lnW g n i) := if_pos ⟨q10, q20⟩
    rw [els] at ls
    by_cases q2 : m = 40
    · have eS : lnS g n N (lnF g n A M i).isSome m i = (i, 5 + 16 * bg g n i) := by unfold lnS; rw [if_pos q1, if_pos (by omega), wr_0]
      have fl := fun P => m_fails (L := L) (xs := xs) (d := d + 2) (P := P) (J := J) (R := R) (Z := Z) (k := 5) h.2.2.1 (by decide)
      have hm5 : I 443 5 = nI 40 := by rw [hQ.1, q2]
      rw [eS, dn (show 5 + 16 * bg g n i ≠ 0 by omega), bI_f]
      refine ⟨_, J, ⟨mlF_m (mF_9 (v := nI (5 + 16 * bg g n i))), fun z => absurd z (by show 5 + 16 * bg g n i ≠ 0; omega), fun _ => by rw [st_eq, upd_eq]⟩, fun P => ?_⟩
      simp (discharger := omega) only [↓w204_0, ↓w204_1, ↓w204_4, ↓w204_5, ↓w204_6, ↓w204_9, ↓w204_10, ↓w204_11, ↓w204_14, ↓w204_15, ↓w204_16, ↓w204_19, ↓w204_20, ↓w204_21, ↓w204_23, ↓w204_26, ↓w204_27, ↓w204_28, ↓w204_31, ↓w204_32, ↓w204_33, ↓w204_36, ↓w204_39, ↓w204_40, ↓w204_43, ↓w204_44, ↓w204_45, ↓w204_46, ↓w204_47, ↓w204_48, ↓w204_51, ↓w204_52, ↓w204_53, ↓w204_54, ↓w204_55, ↓w204_57, ↓w204_60, ↓w204_61, ↓w204_64, ↓w204_67, ↓w204_68, ↓w204_69, ↓w204_72, ↓w204_73, ↓w204_74, ↓w204_77, ↓w204_78, ↓w204_79, ↓w204_80, ↓w204_83, ↓w204_84, ↓w204_85, ↓w204_88, ↓w204_89, ↓w204_90, ↓w204_93, ↓w204_94, ↓w204_95, ↓w204_98, ↓w204_99, ↓w204_100, ↓w204_103, ↓w204_104, ↓w204_105, ↓w204_106, ↓w204_107, ↓w204_110, ↓w204_111, ↓w204_113, ↓w204_116, ↓w204_117, ↓w204_119, ↓w204_122, ↓w204_123, ↓w204_124, ↓w204_125, ↓w204_128, ↓w204_129, ↓w204_130, ↓w204_131, ↓w204_132, ↓w204_135, ↓w204_138, ↓w204_139, ↓w204_140, ↓w204_141, ↓w204_144, ↓w204_145, ↓w204_146, ↓w204_149, ↓w204_150, ↓w204_151, ↓w204_154, ↓w204_155, ↓w204_156, ↓w204_157, ↓w204_158, ↓w204_159, ↓w204_160, ↓w204_161, ↓w204_164, rc420, g420_0, p420_0, g420_1, p420_1, g420_2, g420_3, p420_3, g420_4, p420_4, g420_5, p420_5, g420_6, p420_6, g420_7, p420_7, g420_8, p420_8, g420_9, p420_9, g420_10, g420_11, g420_12, g420_13, g420_14, g420_15, g420_16, g420_17, g420_18, g420_19, p420_19, g420_20, g420_21, g420_22, g420_23, g420_24, g420_25, g420_26, g420_27, g420_28, g420_29, g420_30, g420_31, g420_32, p420_32, g420_33, g420_34, g420_35, g420_36, g420_37, g420_38, g420_39, g420_40, g420_41, g420_42, g420_43, g420_44, g420_45, g420_46, g420_47, p420_47, g420_48, g420_49, p420_49, gi443, si443, ↓ls, hm5, ↓fl, ↓kc_i, ↓kc_l, ↓kc_r, ↓kc_n, mul8, mul8', mul4, mul4', nI_add, inT, nclN, ltT, ltF, leT, leF, eqT, eqF, nzF, m1F, m1T, shr, shg, bI0, bI1, bo_bI, bo_1, bo_0, eq10, eq00, frT1, frT2, frT3, fit0, fit1, fit2, fit3, true_and, and_true, ↓reduceIte, Nat.reduceAdd, Nat.reduceMul, and_self, not_false_eq_true, not_true_eq_false, Nat.zero_add, Nat.add_zero]
    · have hm40 : m < 40 := by omega
      have e1 : lne1 g n i = (i + 1, 0) := ad_0 hk
      have eS : lnS g n N (lnF g n A M i).isSome m i = tkS g n 59 (if wthR (lnW g n i) = true then tkN g n 0 N (ln2 g n (lnF g n A M i).isSome i) else ln2 g n (lnF g n A M i).isSome i) := by unfold lnS ln3; rw [if_pos q1, if_neg (by omega)]
      obtain ⟨I1, J1, ⟨f1, f2, f3, f4⟩, f5⟩ := m_nx (R := R) (Z := Z) (L := L) (xs := xs) hn h
      have hm5 : I 443 5 = nI m := hQ.1
      have i443 : I1 443 5 = nI m := by rw [f1.1 443 (by decide)]; exact hm5
      have i444 : I1 444 = I 444 := f1.1 444 (by decide)
      have i445 : I1 445 = I 445 := f1.1 445 (by decide)
      have i446 : I1 446 = I 446 := f1.1 446 (by decide)
      have i422 : I1 422 = I 422 := f1.1 422 (by decide)
      have j423 : J1 423 = J 423 := f1.2.2.1 423 (by decide)
      have hT2 := mTk_o (a := 444) (φ := upd (I 444) (200 + m) (nI (lnW g n i))) f4 (by decide) (by decide)
      generalize hI2 : st I1 444 (upd (I 444) (200 + m) (nI (lnW g n i))) = I2 at *
      have o2 : ∀ a, a ≠ 444 → I2 a = I1 a := fun a h => by rw [← hI2, st_ne h]
      have e444 : I2 444 = upd (I 444) (200 + m) (nI (lnW g n i)) := by rw [← hI2, st_eq]
      have fr2 : mlF I J I2 J1 := mlF_t (mlF_m f1) (by rw [← hI2, ← i444]; exact mlF_a (by decide) (by omega))
      -- what the new line says
      have wom : ∀ I' : Mi, I' 443 5 = nI (m + 1) → I' 444 = upd (I 444) (200 + m) (nI (lnW g n i)) → (lnW g n i < 7 → I' 445 = upd (I 445) (200 + m) (nI ((lnF g n A M i).getD 0))) → (¬ lnW g n i < 7 → I' 445 = I 445) → I' 446 = (if wthR (lnW g n i) = true then upd (I 446) (200 + m) (nI (lnR g n i)) else I 446) → WoM I' 5 (m + 1) (lnQ g n A M Q m i) := by
        intro I' x1 x2 x3 x4 x5
        refine ⟨x1, fun k hk' => ?_⟩
        show I' 444 (200 + k) = _ ∧ (_ → I' 445 (200 + k) = _) ∧ (_ → I' 446 (200 + k) = _)
        have a5 : ∀ k, k ≠ m → I' 445 (200 + k) = I 445 (200 + k) := fun k hk => by
          by_cases q7 : lnW g n i < 7
          · rw [x3 q7, upd_ne (by omega)]
          · rw [x4 q7]
        have a6 : ∀ k, k ≠ m → I' 446 (200 + k) = I 446 (200 + k) := fun k hk => by
          rw [x5]; split
          · rw [upd_ne (by omega)]
          · rfl
        unfold lnQ
        by_cases ek : k = m
        · subst ek
          rw [if_pos rfl]
          refine ⟨by rw [x2, upd_eq], fun q7 => by rw [x3 q7, upd_eq], fun q => ?_⟩
          rw [x5, if_pos (rc_w q), upd_eq]
        · rw [if_neg ek, a5 k ek, a6 k ek, x2, upd_ne (by omega)]
          exact hQ.2 k (by omega)
      rw [eS]
      by_cases q7 : lnW g n i < 7
      · have e2 : ln2 g n (lnF g n A M i).isSome i = tkNa g n (lnF g n A M i).isSome (i + 1, 0) := by unfold ln2; rw [if_pos q7, e1]
        have lR : lnR g n i = vl g n (i + 2) := by unfold lnR; rw [if_pos q7]
        have kp := fun P => m_isKept (L := L) (xs := xs) (d := d + 2) (P := P) (R := R) (Z := Z) hT2
        cases hnm : isNm g n (i + 1)
        · have hw : 1 + 16 * bg g n (i + 1) ≠ 0 := by omega
          have es : tkS g n 59 (if wthR (lnW g n i) = true then tkN g n 0 N (ln2 g n (lnF g n A M i).isSome i) else ln2 g n (lnF g n A M i).isSome i) = (i + 1, 1 + 16 * bg g n (i + 1)) := by
            rw [e2, tkNa_n hnm, tkN_f (s := (i + 1, 1 + 16 * bg g n (i + 1))) hw, ite_self, tkS_f (s := (i + 1, 1 + 16 * bg g n (i + 1))) hw]
          have fl := fun P => m_fails (L := L) (xs := xs) (d := d + 2) (P := P) (J := J1) (R := R) (Z := Z) (k := 1) hT2.2.2.1 (by decide)
          rw [es, dn hw, bI_f]
          refine ⟨_, J1, ⟨mlF_t fr2 (mlF_m (mF_9 (v := nI (1 + 16 * bg g n (i + 1))))), fun z => absurd z hw, fun _ => by rw [st_eq, upd_eq]⟩, fun P => ?_⟩
          rw [hnm] at kp
          simp (discharger := omega) only [↓w204_0, ↓w204_1, ↓w204_4, ↓w204_5, ↓w204_6, ↓w204_9, ↓w204_10, ↓w204_11, ↓w204_14, ↓w204_15, ↓w204_16, ↓w204_19, ↓w204_20, ↓w204_21, ↓w204_23, ↓w204_26, ↓w204_27, ↓w204_28, ↓w204_31, ↓w204_32, ↓w204_33, ↓w204_36, ↓w204_39, ↓w204_40, ↓w204_43, ↓w204_44, ↓w204_45, ↓w204_46, ↓w204_47, ↓w204_48, ↓w204_51, ↓w204_52, ↓w204_53, ↓w204_54, ↓w204_55, ↓w204_57, ↓w204_60, ↓w204_61, ↓w204_64, ↓w204_67, ↓w204_68, ↓w204_69, ↓w204_72, ↓w204_73, ↓w204_74, ↓w204_77, ↓w204_78, ↓w204_79, ↓w204_80, ↓w204_83, ↓w204_84, ↓w204_85, ↓w204_88, ↓w204_89, ↓w204_90, ↓w204_93, ↓w204_94, ↓w204_95, ↓w204_98, ↓w204_99, ↓w204_100, ↓w204_103, ↓w204_104, ↓w204_105, ↓w204_106, ↓w204_107, ↓w204_110, ↓w204_111, ↓w204_113, ↓w204_116, ↓w204_117, ↓w204_119, ↓w204_122, ↓w204_123, ↓w204_124, ↓w204_125, ↓w204_128, ↓w204_129, ↓w204_130, ↓w204_131, ↓w204_132, ↓w204_135, ↓w204_138, ↓w204_139, ↓w204_140, ↓w204_141, ↓w204_144, ↓w204_145, ↓w204_146, ↓w204_149, ↓w204_150, ↓w204_151, ↓w204_154, ↓w204_155, ↓w204_156, ↓w204_157, ↓w204_158, ↓w204_159, ↓w204_160, ↓w204_161, ↓w204_164, rc420, g420_0, p420_0, g420_1, p420_1, g420_2, g420_3, p420_3, g420_4, p420_4, g420_5, p420_5, g420_6, p420_6, g420_7, p420_7, g420_8, p420_8, g420_9, p420_9, g420_10, g420_11, g420_12, g420_13, g420_14, g420_15, g420_16, g420_17, g420_18, g420_19, p420_19, g420_20, g420_21, g420_22, g420_23, g420_24, g420_25, g420_26, g420_27, g420_28, g420_29, g420_30, g420_31, g420_32, p420_32, g420_33, g420_34, g420_35, g420_36, g420_37, g420_38, g420_39, g420_40, g420_41, g420_42, g420_43, g420_44, g420_45, g420_46, g420_47, p420_47, g420_48, g420_49, p420_49, gi443, si443, gi444, si444, ↓ls, hm5, ↓f5, i443, i444, hI2, ↓kp, Bool.not_false, bI_t, ↓fl, ↓kc_i, ↓kc_l, ↓kc_r, ↓kc_n, mul8, mul8', mul4, mul4', nI_add, inT, nclN, ltT, ltF, leT, leF, eqT, eqF, nzF, m1F, m1T, shr, shg, bI0, bI1, bo_bI, bo_1, bo_0, eq10, eq00, frT1, frT2, frT3, fit0, fit1, fit2, fit3, true_and, and_true, ↓reduceIte, Nat.reduceAdd, Nat.reduceMul, and_self, not_false_eq_true, not_true_eq_false, Nat.zero_add, Nat.add_zero]
        · have k1 := isNm_k hnm
          have k7 : J1 420 7 = lN (w27 g n (i + 1)) := by rw [f4.2.2.2.2.2.1, mw_1 k1]
          have cn := fun P => m_commandNamed (L := L) (xs := xs) (d := d + 2) (P := P) (R := R) (Z := Z) (I := I2) (J := J1) (r := 0) (M := M) k7 (by decide) (by rw [o2 422 (by decide), i422]; exact h2) hM
          rw [j423] at cn
          have ef : (fun c => decide (J 423 (8 * 0 + c) = lN (w27 g n (i + 1)))) = (fun c => decide (J 423 c = lN (w27 g n (i + 1)))) := by funext c; rw [Nat.mul_zero, Nat.zero_add]
          rw [ef, ← hf hnm] at cn
          rw [hnm] at kp
          have hff : ∀ q, lnF g n A M i = some q → q < 40 := fun q hq => by have := (ff_some.mp hq).1; omega
          have ol := oN_lt0 hff
          have i2_445 : I2 445 = I 445 := by rw [o2 445 (by decide), i445]
          cases hfs : lnF g n A M i with
          | none =>
            have hw : 2 + 16 * bg g n (i + 1) ≠ 0 := by omega
            have es : tkS g n 59 (if wthR (lnW g n i) = true then tkN g n 0 N (ln2 g n (none : Option Nat).isSome i) else ln2 g n (none : Option Nat).isSome i) = (i + 1, 2 + 16 * bg g n (i + 1)) := by
              rw [hfs] at e2
              rw [e2]
              show tkS g n 59 (if wthR (lnW g n i) = true then tkN g n 0 N (tkNa g n false (i + 1, 0)) else tkNa g n false (i + 1, 0)) = _
              rw [tkNa_2 hnm, tkN_f (s := (i + 1, 2 + 16 * bg g n (i + 1))) hw, ite_self, tkS_f (s := (i + 1, 2 + 16 * bg g n (i + 1))) hw]
            rw [hfs] at cn
            have h5 := (mTk_o (a := 445) (φ := upd (I 445) (200 + m) (oN none)) hT2 (by decide) (by decide)).2.2.1
            have fl := fun P => m_fails (L := L) (xs := xs) (d := d + 2) (P := P) (J := J1) (R := R) (Z := Z) (k := 2) h5 (by decide)
            have hlt : (nI 0 ≤ oN none) = False := by rw [hfs] at ol; exact eq_false (Int32.not_le.mpr (of_eq_true (ol.trans (eq_true rfl))))
            have fa : mlF I2 J1 (st I2 445 (upd (I 445) (200 + m) (oN none))) J1 := by have := mlF_a (I := I2) (J := J1) (a := 445) (k := 200 + m) (v := oN none) (by decide) (by omega); rw [i2_445] at this; exact this
            rw [es, dn hw, bI_f]
            refine ⟨_, J1, ⟨mlF_t fr2 (mlF_t fa (mlF_m (mF_9 (v := nI (2 + 16 * bg g n (i + 1)))))), fun z => absurd z hw, fun _ => by rw [st_eq, upd_eq]⟩, fun P => ?_⟩
            generalize oN none = o at *
            simp (discharger := omega) only [↓w204_0, ↓w204_1, ↓w204_4, ↓w204_5, ↓w204_6, ↓w204_9, ↓w204_10, ↓w204_11, ↓w204_14, ↓w204_15, ↓w204_16, ↓w204_19, ↓w204_20, ↓w204_21, ↓w204_23, ↓w204_26, ↓w204_27, ↓w204_28, ↓w204_31, ↓w204_32, ↓w204_33, ↓w204_36, ↓w204_39, ↓w204_40, ↓w204_43, ↓w204_44, ↓w204_45, ↓w204_46, ↓w204_47, ↓w204_48, ↓w204_51, ↓w204_52, ↓w204_53, ↓w204_54, ↓w204_55, ↓w204_57, ↓w204_60, ↓w204_61, ↓w204_64, ↓w204_67, ↓w204_68, ↓w204_69, ↓w204_72, ↓w204_73, ↓w204_74, ↓w204_77, ↓w204_78, ↓w204_79, ↓w204_80, ↓w204_83, ↓w204_84, ↓w204_85, ↓w204_88, ↓w204_89, ↓w204_90, ↓w204_93, ↓w204_94, ↓w204_95, ↓w204_98, ↓w204_99, ↓w204_100, ↓w204_103, ↓w204_104, ↓w204_105, ↓w204_106, ↓w204_107, ↓w204_110, ↓w204_111, ↓w204_113, ↓w204_116, ↓w204_117, ↓w204_119, ↓w204_122, ↓w204_123, ↓w204_124, ↓w204_125, ↓w204_128, ↓w204_129, ↓w204_130, ↓w204_131, ↓w204_132, ↓w204_135, ↓w204_138, ↓w204_139, ↓w204_140, ↓w204_141, ↓w204_144, ↓w204_145, ↓w204_146, ↓w204_149, ↓w204_150, ↓w204_151, ↓w204_154, ↓w204_155, ↓w204_156, ↓w204_157, ↓w204_158, ↓w204_159, ↓w204_160, ↓w204_161, ↓w204_164, rc420, g420_0, p420_0, g420_1, p420_1, g420_2, g420_3, p420_3, g420_4, p420_4, g420_5, p420_5, g420_6, p420_6, g420_7, p420_7, g420_8, p420_8, g420_9, p420_9, g420_10, g420_11, g420_12, g420_13, g420_14, g420_15, g420_16, g420_17, g420_18, g420_19, p420_19, g420_20, g420_21, g420_22, g420_23, g420_24, g420_25, g420_26, g420_27, g420_28, g420_29, g420_30, g420_31, g420_32, p420_32, g420_33, g420_34, g420_35, g420_36, g420_37, g420_38, g420_39, g420_40, g420_41, g420_42, g420_43, g420_44, g420_45, g420_46, g420_47, p420_47, g420_48, g420_49, p420_49, gi443, si443, gi444, si444, gi445, si445, ↓ls, hm5, ↓f5, i443, i444, hI2, ↓kp, Bool.not_true, bI_f, ↓cn, i2_445, st_eq, upd_eq, hlt, ↓fl, ↓kc_i, ↓kc_l, ↓kc_r, ↓kc_n, mul8, mul8', mul4, mul4', nI_add, inT, nclN, ltT, ltF, leT, leF, eqT, eqF, nzF, m1F, m1T, shr, shg, bI0, bI1, bo_bI, bo_1, bo_0, eq10, eq00, frT1, frT2, frT3, fit0, fit1, fit2, fit3, true_and, and_true, ↓reduceIte, Nat.reduceAdd, Nat.reduceMul, and_self, not_false_eq_true, not_true_eq_false, Nat.zero_add, Nat.add_zero]
          | some c =>
            have hc8 : c < 8 := by have := (ff_some.mp hfs).1; omega
            have e2' : ln2 g n (some c).isSome i = (i + 2, 0) := by rw [hfs] at e2; rw [e2]; exact tkNa_t hnm
            rw [e2']
            rw [hfs] at cn
            obtain ⟨I3, J3, ⟨a1, a2, a3, a4⟩, a5⟩ := m_nx (R := R) (Z := Z) (L := L) (xs := xs) hn (mTk_o (a := 445) (φ := upd (I 445) (200 + m) (nI c)) hT2 (by decide) (by decide))
            have fa : mlF I2 J1 (st I2 445 (upd (I 445) (200 + m) (nI c))) J1 := by have := mlF_a (I := I2) (J := J1) (a := 445) (k := 200 + m) (v := nI c) (by decide) (by omega); rw [i2_445] at this; exact this
            have i3 : ∀ a, a ≠ 420 → a ≠ 444 → a ≠ 445 → I3 a = I a := fun a x1 x2 x3 => by rw [a1.1 a x1, st_ne x3, o2 a x2, f1.1 a x1]
            have i3_4 : I3 444 = upd (I 444) (200 + m) (nI (lnW g n i)) := by rw [a1.1 444 (by decide), st_ne (by decide), e444]
            have i3_5 : I3 445 = upd (I 445) (200 + m) (nI c) := by rw [a1.1 445 (by decide), st_eq]
            obtain ⟨I4, J4, ⟨b1, b2, b3⟩, b4⟩ := m_line103 (L := L) (xs := xs) (d := d) (R := R) (Z := Z) (W := lnW g n i) (m := m) (N := N) hn a4 (by rw [i3 422 (by decide) (by decide) (by decide)]; exact h0) hN hW (by rw [i3 443 (by decide) (by decide) (by decide)]; exact hm5) hm40
            refine ⟨I4, J4, ⟨mlF_t fr2 (mlF_t fa (mlF_t (mlF_m a1) b1)), fun z => ?_, b3⟩, fun P => ?_⟩
            · obtain ⟨c1, c2, c3, c4, c5⟩ := b2 z
              refine ⟨c1, wom I4 c2 (c3.trans i3_4) (fun _ => ?_) (fun y => absurd q7 y) ?_⟩
              · rw [c4, i3_5, hfs]; rfl
              · rw [c5, i3 446 (by decide) (by decide) (by decide), lR]
            · rw [← b4 P]
              have hon : oN (some c) = nI c := rfl
              simp (discharger := omega) only [↓w204_0, ↓w204_1, ↓w204_4, ↓w204_5, ↓w204_6, ↓w204_9, ↓w204_10, ↓w204_11, ↓w204_14, ↓w204_15, ↓w204_16, ↓w204_19, ↓w204_20, ↓w204_21, ↓w204_23, ↓w204_26, ↓w204_27, ↓w204_28, ↓w204_31, ↓w204_32, ↓w204_33, ↓w204_36, ↓w204_39, ↓w204_40, ↓w204_43, ↓w204_44, ↓w204_45, ↓w204_46, ↓w204_47, ↓w204_48, ↓w204_51, ↓w204_52, ↓w204_53, ↓w204_54, ↓w204_55, ↓w204_57, ↓w204_60, ↓w204_61, ↓w204_64, ↓w204_67, ↓w204_68, ↓w204_69, ↓w204_72, ↓w204_73, ↓w204_74, ↓w204_77, ↓w204_78, ↓w204_79, ↓w204_80, ↓w204_83, ↓w204_84, ↓w204_85, ↓w204_88, ↓w204_89, ↓w204_90, ↓w204_93, ↓w204_94, ↓w204_95, ↓w204_98, ↓w204_99, ↓w204_100, ↓w204_104, ↓w204_105, ↓w204_106, ↓w204_107, ↓w204_110, ↓w204_111, ↓w204_113, ↓w204_116, ↓w204_117, ↓w204_119, ↓w204_122, ↓w204_123, ↓w204_124, ↓w204_125, ↓w204_128, ↓w204_129, ↓w204_130, ↓w204_131, ↓w204_132, ↓w204_135, ↓w204_138, ↓w204_139, ↓w204_140, ↓w204_141, ↓w204_144, ↓w204_145, ↓w204_146, ↓w204_149, ↓w204_150, ↓w204_151, ↓w204_154, ↓w204_155, ↓w204_156, ↓w204_157, ↓w204_158, ↓w204_159, ↓w204_160, ↓w204_161, ↓w204_164, rc420, g420_0, p420_0, g420_1, p420_1, g420_2, g420_3, p420_3, g420_4, p420_4, g420_5, p420_5, g420_6, p420_6, g420_7, p420_7, g420_8, p420_8, g420_9, p420_9, g420_10, g420_11, g420_12, g420_13, g420_14, g420_15, g420_16, g420_17, g420_18, g420_19, p420_19, g420_20, g420_21, g420_22, g420_23, g420_24, g420_25, g420_26, g420_27, g420_28, g420_29, g420_30, g420_31, g420_32, p420_32, g420_33, g420_34, g420_35, g420_36, g420_37, g420_38, g420_39, g420_40, g420_41, g420_42, g420_43, g420_44, g420_45, g420_46, g420_47, p420_47, g420_48, g420_49, p420_49, gi443, si443, gi444, si444, gi445, si445, ↓ls, hm5, ↓f5, i443, i444, hI2, ↓kp, Bool.not_true, bI_f, ↓cn, hon, i2_445, st_eq, upd_eq, ↓a5, ↓kc_i, ↓kc_l, ↓kc_r, ↓kc_n, mul8, mul8', mul4, mul4', nI_add, inT, nclN, ltT, ltF, leT, leF, eqT, eqF, nzF, m1F, m1T, shr, shg, bI0, bI1, bo_bI, bo_1, bo_0, eq10, eq00, frT1, frT2, frT3, fit0, fit1, fit2, fit3, true_and, and_true, ↓reduceIte, Nat.reduceAdd, Nat.reduceMul, and_self, not_false_eq_true, not_true_eq_false, Nat.zero_add, Nat.add_zero]
      · have e2 : ln2 g n (lnF g n A M i).isSome i = (i + 1, 0) := by unfold ln2; rw [if_neg q7, e1]
        have lR : lnR g n i = vl g n (i + 1) := by unfold lnR; rw [if_neg q7]
        rw [e2]
        have i2 : ∀ a, a ≠ 420 → a ≠ 444 → I2 a = I a := fun a x1 x2 => by rw [o2 a x2, f1.1 a x1]
        obtain ⟨I4, J4, ⟨b1, b2, b3⟩, b4⟩ := m_line103 (L := L) (xs := xs) (d := d) (R := R) (Z := Z) (W := lnW g n i) (m := m) (N := N) hn hT2 (by rw [i2 422 (by decide) (by decide)]; exact h0) hN hW (by rw [i2 443 (by decide) (by decide)]; exact hm5) hm40
        refine ⟨I4, J4, ⟨mlF_t fr2 b1, fun z => ?_, b3⟩, fun P => ?_⟩
        · obtain ⟨c1, c2, c3, c4, c5⟩ := b2 z
          refine ⟨c1, wom I4 c2 (c3.trans e444) (fun y => absurd y q7) (fun _ => ?_) ?_⟩
          · rw [c4, i2 445 (by decide) (by decide)]
          · rw [c5, i2 446 (by decide) (by decide), lR]
        · rw [← b4 P]
          simp (discharger := omega) only [↓w204_0, ↓w204_1, ↓w204_4, ↓w204_5, ↓w204_6, ↓w204_9, ↓w204_10, ↓w204_11, ↓w204_14, ↓w204_15, ↓w204_16, ↓w204_19, ↓w204_20, ↓w204_21, ↓w204_23, ↓w204_26, ↓w204_27, ↓w204_28, ↓w204_31, ↓w204_32, ↓w204_33, ↓w204_36, ↓w204_39, ↓w204_40, ↓w204_43, ↓w204_44, ↓w204_45, ↓w204_46, ↓w204_47, ↓w204_48, ↓w204_51, ↓w204_52, ↓w204_53, ↓w204_54, ↓w204_55, ↓w204_57, ↓w204_60, ↓w204_61, ↓w204_64, ↓w204_67, ↓w204_68, ↓w204_69, ↓w204_72, ↓w204_73, ↓w204_74, ↓w204_77, ↓w204_78, ↓w204_79, ↓w204_80, ↓w204_83, ↓w204_84, ↓w204_85, ↓w204_88, ↓w204_89, ↓w204_90, ↓w204_93, ↓w204_94, ↓w204_95, ↓w204_98, ↓w204_99, ↓w204_100, ↓w204_104, ↓w204_105, ↓w204_106, ↓w204_107, ↓w204_110, ↓w204_111, ↓w204_113, ↓w204_116, ↓w204_117, ↓w204_119, ↓w204_122, ↓w204_123, ↓w204_124, ↓w204_125, ↓w204_128, ↓w204_129, ↓w204_130, ↓w204_131, ↓w204_132, ↓w204_135, ↓w204_138, ↓w204_139, ↓w204_140, ↓w204_141, ↓w204_144, ↓w204_145, ↓w204_146, ↓w204_149, ↓w204_150, ↓w204_151, ↓w204_154, ↓w204_155, ↓w204_156, ↓w204_157, ↓w204_158, ↓w204_159, ↓w204_160, ↓w204_161, ↓w204_164, rc420, g420_0, p420_0, g420_1, p420_1, g420_2, g420_3, p420_3, g420_4, p420_4, g420_5, p420_5, g420_6, p420_6, g420_7, p420_7, g420_8, p420_8, g420_9, p420_9, g420_10, g420_11, g420_12, g420_13, g420_14, g420_15, g420_16, g420_17, g420_18, g420_19, p420_19, g420_20, g420_21, g420_22, g420_23, g420_24, g420_25, g420_26, g420_27, g420_28, g420_29, g420_30, g420_31, g420_32, p420_32, g420_33, g420_34, g420_35, g420_36, g420_37, g420_38, g420_39, g420_40, g420_41, g420_42, g420_43, g420_44, g420_45, g420_46, g420_47, p420_47, g420_48, g420_49, p420_49, gi443, si443, gi444, si444, ↓ls, hm5, ↓f5, i443, i444, hI2, ↓kc_i, ↓kc_l, ↓kc_r, ↓kc_n, mul8, mul8', mul4, mul4', nI_add, inT, nclN, ltT, ltF, leT, leF, eqT, eqF, nzF, m1F, m1T, shr, shg, bI0, bI1, bo_bI, bo_1, bo_0, eq10, eq00, frT1, frT2, frT3, fit0, fit1, fit2, fit3, true_and, and_true, ↓reduceIte, Nat.reduceAdd, Nat.reduceMul, and_self, not_false_eq_true, not_true_eq_false, Nat.zero_add, Nat.add_zero]
  · have eS : lnS g n N (lnF g n A M i).isSome m i = (i, 1 + 16 * bg g n i) := by unfold lnS; rw [if_neg q1, wr_0]
    have fl := fun P => m_fails (L := L) (xs := xs) (d := d + 2) (P := P) (J := J) (R := R) (Z := Z) (k := 1) h.2.2.1 (by decide)
    have els : lsV (wd g n i) = -1 := if_neg (fun z => q1 (hsi.mpr z))
    rw [els] at ls
    rw [eS, dn (show 1 + 16 * bg g n i ≠ 0 by omega), bI_f]
    have hlt : (nI 0 ≤ (-1 : Int32)) = False := eq_false (by decide)
    refine ⟨_, J, ⟨mlF_m (mF_9 (v := nI (1 + 16 * bg g n i))), fun z => absurd z (by show 1 + 16 * bg g n i ≠ 0; omega), fun _ => by rw [st_eq, upd_eq]⟩, fun P => ?_⟩
    simp (discharger := omega) only [↓w204_0, ↓w204_1, ↓w204_4, ↓w204_5, ↓w204_6, ↓w204_9, ↓w204_10, ↓w204_11, ↓w204_14, ↓w204_15, ↓w204_16, ↓w204_19, ↓w204_20, ↓w204_21, ↓w204_23, ↓w204_26, ↓w204_27, ↓w204_28, ↓w204_31, ↓w204_32, ↓w204_33, ↓w204_36, ↓w204_39, ↓w204_40, ↓w204_43, ↓w204_44, ↓w204_45, ↓w204_46, ↓w204_47, ↓w204_48, ↓w204_51, ↓w204_52, ↓w204_53, ↓w204_54, ↓w204_55, ↓w204_57, ↓w204_60, ↓w204_61, ↓w204_64, ↓w204_67, ↓w204_68, ↓w204_69, ↓w204_72, ↓w204_73, ↓w204_74, ↓w204_77, ↓w204_78, ↓w204_79, ↓w204_80, ↓w204_83, ↓w204_84, ↓w204_85, ↓w204_88, ↓w204_89, ↓w204_90, ↓w204_93, ↓w204_94, ↓w204_95, ↓w204_98, ↓w204_99, ↓w204_100, ↓w204_103, ↓w204_104, ↓w204_105, ↓w204_106, ↓w204_107, ↓w204_110, ↓w204_111, ↓w204_113, ↓w204_116, ↓w204_117, ↓w204_119, ↓w204_122, ↓w204_123, ↓w204_124, ↓w204_125, ↓w204_128, ↓w204_129, ↓w204_130, ↓w204_131, ↓w204_132, ↓w204_135, ↓w204_138, ↓w204_139, ↓w204_140, ↓w204_141, ↓w204_144, ↓w204_145, ↓w204_146, ↓w204_149, ↓w204_150, ↓w204_151, ↓w204_154, ↓w204_155, ↓w204_156, ↓w204_157, ↓w204_158, ↓w204_159, ↓w204_160, ↓w204_161, ↓w204_164, rc420, g420_0, p420_0, g420_1, p420_1, g420_2, g420_3, p420_3, g420_4, p420_4, g420_5, p420_5, g420_6, p420_6, g420_7, p420_7, g420_8, p420_8, g420_9, p420_9, g420_10, g420_11, g420_12, g420_13, g420_14, g420_15, g420_16, g420_17, g420_18, g420_19, p420_19, g420_20, g420_21, g420_22, g420_23, g420_24, g420_25, g420_26, g420_27, g420_28, g420_29, g420_30, g420_31, g420_32, p420_32, g420_33, g420_34, g420_35, g420_36, g420_37, g420_38, g420_39, g420_40, g420_41, g420_42, g420_43, g420_44, g420_45, g420_46, g420_47, p420_47, g420_48, g420_49, p420_49, ↓ls, hlt, ↓fl, ↓kc_i, ↓kc_l, ↓kc_r, ↓kc_n, mul8, mul8', mul4, mul4', nI_add, inT, nclN, ltT, ltF, leT, leF, eqT, eqF, nzF, m1F, m1T, shr, shg, bI0, bI1, bo_bI, bo_1, bo_0, eq10, eq00, frT1, frT2, frT3, fit0, fit1, fit2, fit3, true_and, and_true, ↓reduceIte, Nat.reduceAdd, Nat.reduceMul, and_self, not_false_eq_true, not_true_eq_false, Nat.zero_add, Nat.add_zero]
end N9
