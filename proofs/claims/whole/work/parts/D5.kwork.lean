/-! the class's work() whole -/
section H5
variable {L : Nat} {xs : Nat → Int32} {d : Nat} {P : Option Value → Hp → Prop} {I I' I2 : Mi} {J J' J2 : Mj} {R R' : Mr} {Z : Mz} {k n i p w b m x T F M N K c o lo hi K1 : Nat} {g : Nat → Nat} {s : Rs} {φ : Nat → Int32} {A : Nat → Int64} {bb bb' : Bool} {Q : Wq} {y : Int64}
theorem lnS_c (h : ln2 g n bb i = ln2 g n bb' i) : lnS g n N bb m i = lnS g n N bb' m i := by unfold lnS ln3; rw [h]
theorem rc_w (h : rc_ w) : wthR w = true := by
  unfold rc_ at h
  unfold wthR
  simp
  omega
theorem k_wLoop (hn : n ≤ 1000) (hg : ∀ k, k < n → g k < 256) (hN9 : N < 10) (hM8 : M ≤ 8) : ∀ k j m Q i (I : Mi), j + k = 1000 → cutT I J R g n T → i ≤ T → I 76 0 = nI N → I 76 2 = nI M → WoC I 94 m Q → m ≤ 40 → ∃ I' x, ((∀ a, a ≠ 72 → (a < 94 ∨ 97 < a) → I' a = I a) ∧ cutT I' J R g n T ∧ okRs T (wkR g n N (J 82) M k m Q i).2 ∧ ((wkR g n N (J 82) M k m Q i).2.2 = 0 → WoC I' 94 (wkR g n N (J 82) M k m Q i).1.1 (wkR g n N (J 82) M k m Q i).1.2 ∧ (wkR g n N (J 82) M k m Q i).1.1 ≤ 40)) ∧ ∀ P, Wp L xs (d+3) 27 11 [some (.ref (72)), some (.ref (94)), some (.ref (76)), some (.int (nI j))] [] (mk (rd I (i, 0)) J (rr R g n i) Z) P = Wp L xs (d+3) 27 37 [some (.ref (72)), some (.ref (94)), some (.ref (76)), some (.int (x))] [] (mk (rd I' (wkR g n N (J 82) M k m Q i).2) J (rr R g n (wkR g n N (J 82) M k m Q i).2.1) Z) P := by
  intro k
  induction k with
  | zero =>
    intro j m Q i I hj hT hi hN hM hW hm
    have hj' : j = 1000 := by omega
    subst hj'
    refine ⟨I, nI 1000, ⟨fun _ _ _ => rfl, hT, ⟨hi, by show 0 < 100000; omega⟩, fun _ => ⟨hW, hm⟩⟩, fun P => ?_⟩
    refine w27_11.trans ?_
    simp (discharger := omega) only [↓w27_1, ↓w27_4, ↓w27_5, ↓w27_6, ↓w27_9, ↓w27_10, ↓w27_12, ↓w27_15, ↓w27_18, ↓w27_19, ↓w27_22, ↓w27_25, ↓w27_26, ↓w27_27, ↓w27_28, ↓w27_31, ↓w27_34, ↓w27_38, ↓w27_41, mul8, mul8', mul4, mul4', nI_add, inT, nclN, ltT, ltF, leT, leF, eqT, eqF, nzF, m1F, m1T, shr, shg, bI0, bI1, bo_bI, bo_1, bo_0, eq10, eq00, frT1, frT2, frT3, fit0, fit1, fit2, fit3, true_and, and_true, ↓reduceIte, Nat.reduceAdd, Nat.reduceMul, and_self, not_false_eq_true, not_true_eq_false, Nat.zero_add, Nat.add_zero]
    exact Eq.refl _
  | succ k ih =>
    intro j m Q i I hj hT hi hN hM hW hm
    have ok0 : okRs T (i, 0) := ⟨hi, by show 0 < 100000; omega⟩
    have io := fun P => k_isOver (L := L) (xs := xs) (d := d + 2) (P := P) (Z := Z) (s := (i, 0)) hT hn ok0
    by_cases hk : kd g n i = 0
    · have eg : wkR g n N (J 82) M (k + 1) m Q i = ((m, Q), (i, 0)) := by rw [wkR, if_pos hk]
      rw [eg]
      refine ⟨I, nI j, ⟨fun _ _ _ => rfl, hT, ok0, fun _ => ⟨hW, hm⟩⟩, fun P => ?_⟩
      refine w27_11.trans ?_
      have b1 : (decide ((i, 0).2 ≠ 0) || decide (kd g n (i, 0).1 = 0)) = true := by simp [hk]
      rw [b1] at io
      simp (discharger := omega) only [↓w27_1, ↓w27_4, ↓w27_5, ↓w27_6, ↓w27_9, ↓w27_10, ↓w27_12, ↓w27_15, ↓w27_18, ↓w27_19, ↓w27_22, ↓w27_25, ↓w27_26, ↓w27_27, ↓w27_28, ↓w27_31, ↓w27_34, ↓w27_38, ↓w27_41, rc72, g72_0, g72_1, g72_2, p72_2, g72_3, p72_3, g72_4, p72_4, g72_5, p72_5, ↓io, bI_t, ↓kc_i, ↓kc_l, ↓kc_r, ↓kc_n, mul8, mul8', mul4, mul4', nI_add, inT, nclN, ltT, ltF, leT, leF, eqT, eqF, nzF, m1F, m1T, shr, shg, bI0, bI1, bo_bI, bo_1, bo_0, eq10, eq00, frT1, frT2, frT3, fit0, fit1, fit2, fit3, true_and, and_true, ↓reduceIte, Nat.reduceAdd, Nat.reduceMul, and_self, not_false_eq_true, not_true_eq_false, Nat.zero_add, Nat.add_zero]
    · have hlt : i < T := (cutT_lt hT hi).mp hk
      obtain ⟨cv, rv, h1, h2, h3⟩ := k_readLine (L := L) (xs := xs) (d := d) (J := J) (Z := Z) hT hn hg hi hk hN hN9 hM hM8 hW.1 hm
      have e1 : lne1 g n i = (i + 1, 0) := ad_0 hk
      have hft : isNm g n (i + 1) = true → ff M (fun c => decide (J 82 c = J 70 (lne1 g n i).1)) = lnF g n (J 82) M i := fun hnm => by
        have h70 : J 70 (i + 1) = lN (w32 g n (i + 1)) := (hT.2.2.1 (i + 1) (by omega)).2.2.2.2.2 (isNm_k hnm)
        rw [e1]
        unfold lnF
        show ff M (fun c => decide (J 82 c = J 70 (i + 1))) = _
        rw [h70]
      have hsame : lnS g n N (ff M (fun c => decide (J 82 c = J 70 (lne1 g n i).1))).isSome m i = lnS g n N (lnF g n (J 82) M i).isSome m i := by
        apply lnS_c
        cases hnm : isNm g n (i + 1)
        · exact lnS_b (Or.inl (by rw [e1]; exact hnm))
        · rw [hft hnm]
      rw [hsame] at h3
      have ok1 := lnS_ok (N := N) (bb := (lnF g n (J 82) M i).isSome) (m := m) hT hn hi
      have b1 : (decide ((i, 0).2 ≠ 0) || decide (kd g n (i, 0).1 = 0)) = false := by simp [hk]
      rw [b1] at io
      generalize hI1 : (if wSo (wd g n i) = nI 1 ∧ m < 40 then trp I 94 (m + 1) (upd (I 95) m (nI (lnW g n i))) (upd (I 96) m cv) (upd (I 97) m rv) else I) = I1 at *
      have f1 : ∀ a, a ≠ 72 → (a < 94 ∨ 97 < a) → I1 a = I a := fun a h1 h2 => by
        rw [← hI1]; split
        · exact tn (by omega)
        · rfl
      have f72 : ∀ a, (a < 94 ∨ 97 < a) → I1 a = I a := fun a h2 => by
        rw [← hI1]; split
        · exact tn (by omega)
        · rfl
      have hT1 : cutT I1 J R g n T := cutT_cg (fun a h1 h2 => f72 a (by omega)) rfl rfl hT
      by_cases hf : (lnS g n N (lnF g n (J 82) M i).isSome m i).2 = 0
      · obtain ⟨z1, z2, z3, z4, z5, z6, z7⟩ := lnS_i hf
        have eg : wkR g n N (J 82) M (k + 1) m Q i = wkR g n N (J 82) M k (m + 1) (lnQ g n (J 82) M Q m i) (lnS g n N (lnF g n (J 82) M i).isSome m i).1 := by rw [wkR, if_neg hk, if_neg (by simp [hf])]
        have hW1 : WoC I1 94 (m + 1) (lnQ g n (J 82) M Q m i) := by
          rw [← hI1, if_pos ⟨z1, z2⟩]
          refine ⟨t_0, fun k hk' => ?_⟩
          rw [t_1, t_2, t_3]
          unfold lnQ
          by_cases ek : k = m
          · subst ek
            rw [if_pos rfl, upd_eq, upd_eq, upd_eq]
            refine ⟨rfl, fun q7 => ?_, fun q => ?_⟩
            · obtain ⟨y1, y2⟩ := z3 q7
              rw [h2 q7, e1, if_pos y1]
              have hft' := hft y1
              rw [e1] at hft'
              rw [hft']
              cases hq : lnF g n (J 82) M i with
              | none => rw [hq] at y2; cases y2
              | some c => rfl
            · have hw := rc_w q
              rw [h1 hw]
              have e2 : (ln2 g n (ff M (fun c => decide (J 82 c = J 70 (lne1 g n i).1))).isSome i).1 = (if lnW g n i < 7 then i + 2 else i + 1) := by
                rw [← z5]
                congr 1
                by_cases q7 : lnW g n i < 7
                · rw [hft (z3 q7).1]
                · exact lnS_b (Or.inr (Or.inr (by omega)))
              rw [e2]
              have z4' := z4 hw
              have hle : (if lnW g n i < 7 then i + 2 else i + 1) ≤ T := by
                split
                · rename_i q7
                  have := (cutT_lt hT (show i + 1 ≤ T by omega)).mp (by rw [isNm_k (z3 q7).1]; decide)
                  omega
                · omega
              exact (hT.2.2.1 _ hle).2.2.2.1 z4'.1
          · rw [if_neg ek, upd_ne ek, upd_ne ek, upd_ne ek]
            exact hW.2 k (by omega)
        obtain ⟨I', x, ⟨h5, h6, h7, h7'⟩, h8⟩ := ih (j + 1) (m + 1) (lnQ g n (J 82) M Q m i) (lnS g n N (lnF g n (J 82) M i).isSome m i).1 I1 (by omega) hT1 ok1.1 (by rw [f72 76 (by decide)]; exact hN) (by rw [f72 76 (by decide)]; exact hM) hW1 (by omega)
        rw [eg]
        refine ⟨I', x, ⟨fun a a1 a2 => (h5 a a1 a2).trans (f1 a a1 a2), h6, h7, h7'⟩, fun P => ?_⟩
        rw [← h8 P]
        refine w27_11.trans ?_
        rw [rs_0 hf] at h3
        dsimp only at h3
        simp (discharger := omega) only [↓w27_1, ↓w27_4, ↓w27_5, ↓w27_6, ↓w27_9, ↓w27_10, ↓w27_12, ↓w27_15, ↓w27_18, ↓w27_19, ↓w27_22, ↓w27_25, ↓w27_26, ↓w27_27, ↓w27_28, ↓w27_31, ↓w27_34, ↓w27_38, ↓w27_41, rc72, g72_0, g72_1, g72_2, p72_2, g72_3, p72_3, g72_4, p72_4, g72_5, p72_5, ↓io, bI_f, ↓h3, ↓kc_i, ↓kc_l, ↓kc_r, ↓kc_n, mul8, mul8', mul4, mul4', nI_add, inT, nclN, ltT, ltF, leT, leF, eqT, eqF, nzF, m1F, m1T, shr, shg, bI0, bI1, bo_bI, bo_1, bo_0, eq10, eq00, frT1, frT2, frT3, fit0, fit1, fit2, fit3, true_and, and_true, ↓reduceIte, Nat.reduceAdd, Nat.reduceMul, and_self, not_false_eq_true, not_true_eq_false, Nat.zero_add, Nat.add_zero]
      · have eg : wkR g n N (J 82) M (k + 1) m Q i = ((m, Q), lnS g n N (lnF g n (J 82) M i).isSome m i) := by rw [wkR, if_neg hk, if_pos hf]
        rw [eg]
        refine ⟨I1, nI (j + 1), ⟨f1, hT1, ok1, fun z => absurd z hf⟩, fun P => ?_⟩
        refine w27_11.trans ?_
        simp (discharger := omega) only [↓w27_1, ↓w27_4, ↓w27_5, ↓w27_6, ↓w27_9, ↓w27_10, ↓w27_12, ↓w27_15, ↓w27_18, ↓w27_19, ↓w27_22, ↓w27_25, ↓w27_26, ↓w27_27, ↓w27_28, ↓w27_31, ↓w27_34, ↓w27_38, ↓w27_41, rc72, g72_0, g72_1, g72_2, p72_2, g72_3, p72_3, g72_4, p72_4, g72_5, p72_5, ↓io, bI_f, ↓h3, ↓kc_i, ↓kc_l, ↓kc_r, ↓kc_n, mul8, mul8', mul4, mul4', nI_add, inT, nclN, ltT, ltF, leT, leF, eqT, eqF, nzF, m1F, m1T, shr, shg, bI0, bI1, bo_bI, bo_1, bo_0, eq10, eq00, frT1, frT2, frT3, fit0, fit1, fit2, fit3, true_and, and_true, ↓reduceIte, Nat.reduceAdd, Nat.reduceMul, and_self, not_false_eq_true, not_true_eq_false, Nat.zero_add, Nat.add_zero]
        refine w27_11.trans ?_
        have io2 := fun P => k_isOver (L := L) (xs := xs) (d := d + 2) (P := P) (Z := Z) hT1 hn ok1
        have b2 : (decide ((lnS g n N (lnF g n (J 82) M i).isSome m i).2 ≠ 0) || decide (kd g n (lnS g n N (lnF g n (J 82) M i).isSome m i).1 = 0)) = true := by simp [hf]
        rw [b2] at io2
        by_cases hj1 : j + 1 = 1000
        · simp (discharger := omega) only [↓w27_1, ↓w27_4, ↓w27_5, ↓w27_6, ↓w27_9, ↓w27_10, ↓w27_12, ↓w27_15, ↓w27_18, ↓w27_19, ↓w27_22, ↓w27_25, ↓w27_26, ↓w27_27, ↓w27_28, ↓w27_31, ↓w27_34, ↓w27_38, ↓w27_41, mul8, mul8', mul4, mul4', nI_add, inT, nclN, ltT, ltF, leT, leF, eqT, eqF, nzF, m1F, m1T, shr, shg, bI0, bI1, bo_bI, bo_1, bo_0, eq10, eq00, frT1, frT2, frT3, fit0, fit1, fit2, fit3, true_and, and_true, ↓reduceIte, Nat.reduceAdd, Nat.reduceMul, and_self, not_false_eq_true, not_true_eq_false, Nat.zero_add, Nat.add_zero]
        · simp (discharger := omega) only [↓w27_1, ↓w27_4, ↓w27_5, ↓w27_6, ↓w27_9, ↓w27_10, ↓w27_12, ↓w27_15, ↓w27_18, ↓w27_19, ↓w27_22, ↓w27_25, ↓w27_26, ↓w27_27, ↓w27_28, ↓w27_31, ↓w27_34, ↓w27_38, ↓w27_41, rc72, g72_0, g72_1, g72_2, p72_2, g72_3, p72_3, g72_4, p72_4, g72_5, p72_5, ↓io2, bI_t, ↓kc_i, ↓kc_l, ↓kc_r, ↓kc_n, mul8, mul8', mul4, mul4', nI_add, inT, nclN, ltT, ltF, leT, leF, eqT, eqF, nzF, m1F, m1T, shr, shg, bI0, bI1, bo_bI, bo_1, bo_0, eq10, eq00, frT1, frT2, frT3, fit0, fit1, fit2, fit3, true_and, and_true, ↓reduceIte, Nat.reduceAdd, Nat.reduceMul, and_self, not_false_eq_true, not_true_eq_false, Nat.zero_add, Nat.add_zero]
/-- what the class's work() touches -/
def wkS (a : Nat) : Prop := a = 65 ∨ a = 67 ∨ a = 68 ∨ a = 69 ∨ a = 72 ∨ (94 ≤ a ∧ a ≤ 97)
theorem k_work (hl : I 65 1 = nI n) (hn : n ≤ 1000) (hs : sgT I g n) (hK : K1 = 1000) (hN : I 76 0 = nI N) (hN9 : N < 10) (hM : I 76 2 = nI M) (hM8 : M ≤ 8) : ∃ I' J' R', (I' 65 1 = nI 0 ∧ (wkR g n N (J 82) M K1 0 Q 0).2.2 < 100000 ∧ ((wkR g n N (J 82) M K1 0 Q 0).2.2 ≠ 0 → ∀ a, ¬ wkS a → I' a = I a) ∧ ((wkR g n N (J 82) M K1 0 Q 0).2.2 = 0 → WoC I' 90 (wkR g n N (J 82) M K1 0 Q 0).1.1 (wkR g n N (J 82) M K1 0 Q 0).1.2 ∧ (wkR g n N (J 82) M K1 0 Q 0).1.1 ≤ 40 ∧ ∀ a, ¬ wkS a → (a < 90 ∨ 93 < a) → I' a = I a) ∧ ∀ a, a ≠ 70 → J' a = J a) ∧ ∀ P, Wp L xs (d+9) 117 0 [some (.ref (64)), none] [] (mk I J R Z) P = P (some (.int (nI (wkR g n N (J 82) M K1 0 Q 0).2.2))) (mk I' J' R' Z) := by
  have hg : ∀ k, k < n → g k < 256 := fun k hk => by have := okc_lt (hs k hk).2; omega
  obtain ⟨I1, J1, R1, T, ⟨c1, c2⟩, c3⟩ := k_begin (L := L) (xs := xs) (d := d) (J := J) (R := R) (Z := Z) hl hn hs
  have j82 : J1 82 = J 82 := c1.2.2.1 82 (by decide)
  generalize hI2 : st I1 94 (upd (I1 94) 0 (nI 0)) = I2
  have eo : ∀ a, a ≠ 94 → I2 a = I1 a := fun a h => by rw [← hI2, st_ne h]
  have e94 : I2 94 0 = nI 0 := by rw [← hI2, st_eq, upd_eq]
  have e76 : ∀ a, a ≠ 65 → a ≠ 67 → a ≠ 68 → a ≠ 69 → a ≠ 94 → I2 a = I a := fun a h1 h2 h3 h4 h5 => by rw [eo a h5, c1.1 a h1 h2 h3 h4]
  have hT2 : cutT I2 J1 R1 g n T := cutT_cg (fun a h1 h2 => eo a (by omega)) rfl rfl c2
  obtain ⟨I3, x, ⟨f1, f2, f3, f4⟩, f5⟩ := k_wLoop (L := L) (xs := xs) (d := d + 5) (Z := Z) (J := J1) (R := R1) hn hg hN9 hM8 K1 0 0 Q 0 I2 (by omega) hT2 (Nat.zero_le _) (by rw [e76 76 (by decide) (by decide) (by decide) (by decide) (by decide)]; exact hN) (by rw [e76 76 (by decide) (by decide) (by decide) (by decide) (by decide)]; exact hM) ⟨e94, fun k hk => by omega⟩ (by decide)
  rw [j82] at f3 f4 f5
  generalize wkR g n N (J 82) M K1 0 Q 0 = r at *
  have rw5 : ∀ I : Mi, rd I r.2 72 5 = nI r.2.2 := fun I => rd72_5
  have hlt : r.2.2 < 100000 := f3.2
  have hread : ∀ P, Wp L xs (d+8) 27 0 [some (.ref (72)), some (.ref (94)), some (.ref (76)), none] [] (mk I J R Z) P = P (some (.int (nI r.2.2))) (mk (rd I3 r.2) J1 (rr R1 g n r.2.1) Z) := fun P => by
    simp (discharger := omega) only [↓w27_0, ↓w27_1, ↓w27_4, ↓w27_5, ↓w27_6, ↓w27_9, ↓w27_10, ↓w27_12, ↓w27_15, ↓w27_18, ↓w27_19, ↓w27_22, ↓w27_25, ↓w27_26, ↓w27_27, ↓w27_28, ↓w27_31, ↓w27_34, ↓w27_37, ↓w27_38, ↓w27_41, rc72, g72_0, g72_1, g72_2, p72_2, g72_3, p72_3, g72_4, p72_4, g72_5, p72_5, ↓c3, pT0 isT_94, rdo, rd_st, hI2, ↓kc_i, ↓kc_l, ↓kc_r, ↓kc_n, mul8, mul8', mul4, mul4', nI_add, inT, nclN, ltT, ltF, leT, leF, eqT, eqF, nzF, m1F, m1T, shr, shg, bI0, bI1, bo_bI, bo_1, bo_0, eq10, eq00, frT1, frT2, frT3, fit0, fit1, fit2, fit3, true_and, and_true, ↓reduceIte, Nat.reduceAdd, Nat.reduceMul, and_self, not_false_eq_true, not_true_eq_false, Nat.zero_add, Nat.add_zero]
    refine (f5 P).trans ?_
    simp (discharger := omega) only [↓w27_0, ↓w27_1, ↓w27_4, ↓w27_5, ↓w27_6, ↓w27_9, ↓w27_10, ↓w27_12, ↓w27_15, ↓w27_18, ↓w27_19, ↓w27_22, ↓w27_25, ↓w27_26, ↓w27_27, ↓w27_28, ↓w27_31, ↓w27_34, ↓w27_37, ↓w27_38, ↓w27_41, rc72, g72_0, g72_1, g72_2, p72_2, g72_3, p72_3, g72_4, p72_4, g72_5, p72_5, rw5, ↓kc_i, ↓kc_l, ↓kc_r, ↓kc_n, mul8, mul8', mul4, mul4', nI_add, inT, nclN, ltT, ltF, leT, leF, eqT, eqF, nzF, m1F, m1T, shr, shg, bI0, bI1, bo_bI, bo_1, bo_0, eq10, eq00, frT1, frT2, frT3, fit0, fit1, fit2, fit3, true_and, and_true, ↓reduceIte, Nat.reduceAdd, Nat.reduceMul, and_self, not_false_eq_true, not_true_eq_false, Nat.zero_add, Nat.add_zero]
  generalize hI4 : st (rd I3 r.2) 65 (upd (rd I3 r.2 65) 1 (nI 0)) = I4
  have h4o : ∀ a, a ≠ 65 → a ≠ 72 → I4 a = I3 a := fun a h1 h2 => by rw [← hI4, st_ne h1, rdo h2]
  have h65 : I4 65 1 = nI 0 := by rw [← hI4, st_eq, upd_eq]
  have fr : ∀ a, ¬ wkS a → I4 a = I a := fun a h => by
    unfold wkS at h
    rw [h4o a (by omega) (by omega), f1 a (by omega) (by omega), e76 a (by omega) (by omega) (by omega) (by omega) (by omega)]
  by_cases hf : r.2.2 = 0
  · obtain ⟨w1, w2⟩ := f4 hf
    have hW4 : WoC I4 94 r.1.1 r.1.2 := WoC_cg (fun a ha => h4o _ (by omega) (by omega)) w1
    have tc := fun P => k_tcopy (L := L) (xs := xs) (d := d + 7) (I := I4) (J := J1) (R := rr R1 g n r.2.1) (Z := Z) (P := P) (t := 90) (o := 94) (n := 40) (m := r.1.1) isT_90 isT_94 (by omega) hW4.1 w2
    have w5 := WoC_t (I := I4) (t := 90) (f := I4 (90 + 1)) (g := I4 (90 + 2)) (p := I4 (90 + 3)) hW4
    generalize hI5 : trp I4 90 r.1.1 (mix (I4 (94 + 1)) (I4 (90 + 1)) r.1.1) (mix (I4 (94 + 2)) (I4 (90 + 2)) r.1.1) (mix (I4 (94 + 3)) (I4 (90 + 3)) r.1.1) = I5 at *
    have h5o : ∀ a, (a < 90 ∨ 93 < a) → I5 a = I4 a := fun a h => by rw [← hI5, tn (by omega)]
    refine ⟨I5, J1, rr R1 g n r.2.1, ⟨by rw [h5o 65 (by decide), h65], hlt, fun z => absurd hf z, fun _ => ⟨w5, w2, fun a h1 h2 => by rw [h5o a h2, fr a h1]⟩, c1.2.2.1⟩, fun P => ?_⟩
    rw [hf] at hread ⊢
    simp (discharger := omega) only [↓w117_0, ↓w117_1, ↓w117_4, ↓w117_5, ↓w117_8, ↓w117_9, ↓w117_12, ↓w117_15, ↓w117_16, ↓w117_17, ↓w117_20, ↓w117_21, ↓w117_24, ↓w117_25, ↓w117_28, ↓w117_29, ↓w117_32, ↓w117_33, ↓w117_36, ↓w117_39, ↓w117_40, rc64, g64_0, g64_1, g64_2, g64_3, g64_4, g64_5, g64_6, g64_7, g64_8, g64_9, g64_10, g64_11, g64_12, rc72, g72_0, g72_1, g72_2, p72_2, g72_3, p72_3, g72_4, p72_4, g72_5, p72_5, rc65, g65_0, g65_1, p65_1, g65_2, g65_3, g65_4, g65_5, g65_6, g65_7, p65_7, ↓hread, hI4, rcT isT_90, ↓tc, ↓kc_i, ↓kc_l, ↓kc_r, ↓kc_n, mul8, mul8', mul4, mul4', nI_add, inT, nclN, ltT, ltF, leT, leF, eqT, eqF, nzF, m1F, m1T, shr, shg, bI0, bI1, bo_bI, bo_1, bo_0, eq10, eq00, frT1, frT2, frT3, fit0, fit1, fit2, fit3, true_and, and_true, ↓reduceIte, Nat.reduceAdd, Nat.reduceMul, and_self, not_false_eq_true, not_true_eq_false, Nat.zero_add, Nat.add_zero]
  · have hz : (nI r.2.2 = nI 0) = False := eqF hf (by omega) (by decide)
    refine ⟨I4, J1, rr R1 g n r.2.1, ⟨h65, hlt, fun _ => fr, fun z => absurd z hf, c1.2.2.1⟩, fun P => ?_⟩
    simp (discharger := omega) only [↓w117_0, ↓w117_1, ↓w117_4, ↓w117_5, ↓w117_8, ↓w117_9, ↓w117_12, ↓w117_15, ↓w117_16, ↓w117_17, ↓w117_20, ↓w117_21, ↓w117_24, ↓w117_25, ↓w117_28, ↓w117_29, ↓w117_32, ↓w117_33, ↓w117_36, ↓w117_39, ↓w117_40, rc64, g64_0, g64_1, g64_2, g64_3, g64_4, g64_5, g64_6, g64_7, g64_8, g64_9, g64_10, g64_11, g64_12, rc72, g72_0, g72_1, g72_2, p72_2, g72_3, p72_3, g72_4, p72_4, g72_5, p72_5, rc65, g65_0, g65_1, p65_1, g65_2, g65_3, g65_4, g65_5, g65_6, g65_7, p65_7, ↓hread, hI4, hz, ↓kc_i, ↓kc_l, ↓kc_r, ↓kc_n, mul8, mul8', mul4, mul4', nI_add, inT, nclN, ltT, ltF, leT, leF, eqT, eqF, nzF, m1F, m1T, shr, shg, bI0, bI1, bo_bI, bo_1, bo_0, eq10, eq00, frT1, frT2, frT3, fit0, fit1, fit2, fit3, true_and, and_true, ↓reduceIte, Nat.reduceAdd, Nat.reduceMul, and_self, not_false_eq_true, not_true_eq_false, Nat.zero_add, Nat.add_zero]
end H5
