/-! the model's work() whole -/
section P0
variable {L : Nat} {xs : Nat → Int32} {d : Nat} {P : Option Value → Hp → Prop} {I I' I2 : Mi} {J J' J2 : Mj} {R : Mr} {Z : Mz} {k n i j p w b m c lo hi K N M F r a W q T K1 : Nat} {g : Nat → Nat} {y : Int64} {v x : Int32} {f bb : Bool} {A B : Nat → Int64} {Q : Wq}
theorem m_laysLines5 : Wp L xs d 205 0 [some (.ref (420)), some (.int (nI 5)), some (.int (nI 0)), none] [] (mk I J R Z) P = P none (mk (lyL I 5 0 40) J R Z) := by
  have ea : nI 40 * nI 5 = nI (40 * 5) := pk_mul _ _
  have eb : nI 40 * nI 0 = nI (40 * 0) := pk_mul _ _
  have key : ∀ n, n ≤ 40 → Wp L xs d 205 14 [some (.ref (420)), some (.int (nI 5)), some (.int (nI 0)), some (.int (nI 0))] [] (mk (lyL I 5 0 0) J R Z) P = Wp L xs d 205 14 [some (.ref (420)), some (.int (nI 5)), some (.int (nI 0)), some (.int (nI n))] [] (mk (lyL I 5 0 n) J R Z) P := by
    intro n
    induction n with
    | zero => intro _; exact Eq.refl _
    | succ n ih =>
      intro hn
      rw [ih (by omega)]
      refine w205_14.trans ?_
      have q1 : ∀ f : Nat → Int32, upd (va_cpy f f (40 * 5) (40 * 0) n) (40 * 0 + n) (f (40 * 5 + n)) = va_cpy f f (40 * 5) (40 * 0) (n + 1) := fun f => cpy_s rfl
      have o1 : ∀ f : Nat → Int32, va_cpy f f (40 * 5) (40 * 0) n (40 * 5 + n) = f (40 * 5 + n) := fun f => cpy_o (by omega)
      unfold lyL
      generalize hA : 40 * 5 = A at *
      generalize hB : 40 * 0 = B at *
      simp (discharger := omega) only [↓w205_0, ↓w205_1, ↓w205_4, ↓w205_5, ↓w205_6, ↓w205_9, ↓w205_10, ↓w205_11, ↓w205_12, ↓w205_13, ↓w205_15, ↓w205_17, ↓w205_20, ↓w205_21, ↓w205_24, ↓w205_26, ↓w205_27, ↓w205_28, ↓w205_29, ↓w205_30, ↓w205_31, ↓w205_34, ↓w205_36, ↓w205_37, ↓w205_38, ↓w205_39, ↓w205_40, ↓w205_41, ↓w205_42, ↓w205_43, ↓w205_46, ↓w205_48, ↓w205_49, ↓w205_50, ↓w205_51, ↓w205_52, ↓w205_53, ↓w205_56, ↓w205_58, ↓w205_59, ↓w205_60, ↓w205_61, ↓w205_62, ↓w205_63, ↓w205_64, ↓w205_65, ↓w205_68, ↓w205_70, ↓w205_71, ↓w205_72, ↓w205_73, ↓w205_74, ↓w205_75, ↓w205_78, ↓w205_80, ↓w205_81, ↓w205_82, ↓w205_83, ↓w205_84, ↓w205_85, ↓w205_86, ↓w205_89, ↓w205_92, rc420, g420_0, p420_0, g420_1, p420_1, g420_2, g420_3, p420_3, g420_4, p420_4, g420_5, p420_5, g420_6, p420_6, g420_7, p420_7, g420_8, p420_8, g420_9, p420_9, g420_10, g420_11, g420_12, g420_13, g420_14, g420_15, g420_16, g420_17, g420_18, g420_19, p420_19, g420_20, g420_21, g420_22, g420_23, g420_24, g420_25, g420_26, g420_27, g420_28, g420_29, g420_30, g420_31, g420_32, p420_32, g420_33, g420_34, g420_35, g420_36, g420_37, g420_38, g420_39, g420_40, g420_41, g420_42, g420_43, g420_44, g420_45, g420_46, g420_47, p420_47, g420_48, g420_49, p420_49, gi443, si443, gi444, si444, gi445, si445, gi446, si446, ea, eb, st_ne, st_eq, o1, q1, mul8, mul8', mul4, mul4', nI_add, inT, nclN, ltT, ltF, leT, leF, eqT, eqF, nzF, m1F, m1T, shr, shg, bI0, bI1, bo_bI, bo_1, bo_0, eq10, eq00, frT1, frT2, frT3, fit0, fit1, fit2, fit3, true_and, and_true, ↓reduceIte, Nat.reduceAdd, Nat.reduceMul, and_self, not_false_eq_true, not_true_eq_false, Nat.zero_add, Nat.add_zero]
      rw [st3 (by decide) (by decide) (by decide)]
  have e0 : st I 443 (upd (I 443) 0 (I 443 5)) = lyL I 5 0 0 := by
    unfold lyL
    rw [cpy_0, cpy_0, cpy_0]
    funext k
    by_cases e1 : k = 446
    · subst e1; rw [st_eq, st_ne (by decide)]
    · rw [st_ne (a := 446) e1]
      by_cases e2 : k = 445
      · subst e2; rw [st_eq, st_ne (by decide)]
      · rw [st_ne (a := 445) e2]
        by_cases e3 : k = 444
        · subst e3; rw [st_eq, st_ne (by decide)]
        · rw [st_ne (a := 444) e3]
  simp (discharger := omega) only [↓w205_0, ↓w205_1, ↓w205_4, ↓w205_5, ↓w205_6, ↓w205_9, ↓w205_10, ↓w205_11, ↓w205_12, ↓w205_13, ↓w205_15, ↓w205_17, ↓w205_20, ↓w205_21, ↓w205_24, ↓w205_26, ↓w205_27, ↓w205_28, ↓w205_29, ↓w205_30, ↓w205_31, ↓w205_34, ↓w205_36, ↓w205_37, ↓w205_38, ↓w205_39, ↓w205_40, ↓w205_41, ↓w205_42, ↓w205_43, ↓w205_46, ↓w205_48, ↓w205_49, ↓w205_50, ↓w205_51, ↓w205_52, ↓w205_53, ↓w205_56, ↓w205_58, ↓w205_59, ↓w205_60, ↓w205_61, ↓w205_62, ↓w205_63, ↓w205_64, ↓w205_65, ↓w205_68, ↓w205_70, ↓w205_71, ↓w205_72, ↓w205_73, ↓w205_74, ↓w205_75, ↓w205_78, ↓w205_80, ↓w205_81, ↓w205_82, ↓w205_83, ↓w205_84, ↓w205_85, ↓w205_86, ↓w205_89, ↓w205_92, rc420, g420_0, p420_0, g420_1, p420_1, g420_2, g420_3, p420_3, g420_4, p420_4, g420_5, p420_5, g420_6, p420_6, g420_7, p420_7, g420_8, p420_8, g420_9, p420_9, g420_10, g420_11, g420_12, g420_13, g420_14, g420_15, g420_16, g420_17, g420_18, g420_19, p420_19, g420_20, g420_21, g420_22, g420_23, g420_24, g420_25, g420_26, g420_27, g420_28, g420_29, g420_30, g420_31, g420_32, p420_32, g420_33, g420_34, g420_35, g420_36, g420_37, g420_38, g420_39, g420_40, g420_41, g420_42, g420_43, g420_44, g420_45, g420_46, g420_47, p420_47, g420_48, g420_49, p420_49, gi443, si443, e0, mul8, mul8', mul4, mul4', nI_add, inT, nclN, ltT, ltF, leT, leF, eqT, eqF, nzF, m1F, m1T, shr, shg, bI0, bI1, bo_bI, bo_1, bo_0, eq10, eq00, frT1, frT2, frT3, fit0, fit1, fit2, fit3, true_and, and_true, ↓reduceIte, Nat.reduceAdd, Nat.reduceMul, and_self, not_false_eq_true, not_true_eq_false, Nat.zero_add, Nat.add_zero]
  rw [key 40 (Nat.le_refl _)]
  refine w205_14.trans ?_
  simp (discharger := omega) only [↓w205_0, ↓w205_1, ↓w205_4, ↓w205_5, ↓w205_6, ↓w205_9, ↓w205_10, ↓w205_11, ↓w205_12, ↓w205_13, ↓w205_15, ↓w205_17, ↓w205_20, ↓w205_21, ↓w205_24, ↓w205_26, ↓w205_27, ↓w205_28, ↓w205_29, ↓w205_30, ↓w205_31, ↓w205_34, ↓w205_36, ↓w205_37, ↓w205_38, ↓w205_39, ↓w205_40, ↓w205_41, ↓w205_42, ↓w205_43, ↓w205_46, ↓w205_48, ↓w205_49, ↓w205_50, ↓w205_51, ↓w205_52, ↓w205_53, ↓w205_56, ↓w205_58, ↓w205_59, ↓w205_60, ↓w205_61, ↓w205_62, ↓w205_63, ↓w205_64, ↓w205_65, ↓w205_68, ↓w205_70, ↓w205_71, ↓w205_72, ↓w205_73, ↓w205_74, ↓w205_75, ↓w205_78, ↓w205_80, ↓w205_81, ↓w205_82, ↓w205_83, ↓w205_84, ↓w205_85, ↓w205_86, ↓w205_89, ↓w205_92, mul8, mul8', mul4, mul4', nI_add, inT, nclN, ltT, ltF, leT, leF, eqT, eqF, nzF, m1F, m1T, shr, shg, bI0, bI1, bo_bI, bo_1, bo_0, eq10, eq00, frT1, frT2, frT3, fit0, fit1, fit2, fit3, true_and, and_true, ↓reduceIte, Nat.reduceAdd, Nat.reduceMul, and_self, not_false_eq_true, not_true_eq_false, Nat.zero_add, Nat.add_zero]
theorem lnF_m (hP : ∀ c, c < M → NmP (A c) (B c)) (h : isNm g n (i + 1) = true) : lnF g n A M i = ff M (fun c => decide (B c = lN (w27 g n (i + 1)))) := by
  unfold lnF
  refine ff_cg fun c hc => ?_
  have := NmP_e (hP c hc) (NmP_t (isNm_k h))
  exact decide_eq_decide.mpr (this ▸ Iff.rfl)
theorem lnQ_ok (h : okW N M m Q) (hz : (lnS g n N (lnF g n A M i).isSome m i).2 = 0) : okW N M (m + 1) (lnQ g n A M Q m i) := by
  obtain ⟨z1, z2, z3, z4, -⟩ := lnS_i hz
  obtain ⟨y1, y2, -, -⟩ := st_wd z1
  refine ⟨by omega, fun k hk => ?_⟩
  unfold lnQ
  by_cases e : k = m
  · rw [if_pos e]
    refine ⟨by show lnW g n i < 11; unfold lnW; omega, fun q7 => ?_, fun q => (z4 (rc_w q)).2⟩
    have := (z3 q7).2
    cases hq : lnF g n A M i with
    | none => rw [hq] at this; cases this
    | some c => exact (ff_some.mp hq).1
  · rw [if_neg e]; exact h.2 k (by omega)
theorem wkR_ok : ∀ k m Q i, okW N M m Q → (wkR g n N A M k m Q i).2.2 = 0 → okW N M (wkR g n N A M k m Q i).1.1 (wkR g n N A M k m Q i).1.2 := by
  intro k
  induction k with
  | zero => intro m Q i h _; exact h
  | succ k ih =>
    intro m Q i h hz
    by_cases hk : kd g n i = 0
    · have eg : wkR g n N A M (k + 1) m Q i = ((m, Q), (i, 0)) := by rw [wkR, if_pos hk]
      rw [eg]; exact h
    · by_cases hf : (lnS g n N (lnF g n A M i).isSome m i).2 = 0
      · have eg : wkR g n N A M (k + 1) m Q i = wkR g n N A M k (m + 1) (lnQ g n A M Q m i) (lnS g n N (lnF g n A M i).isSome m i).1 := by rw [wkR, if_neg hk, if_neg (by simp [hf])]
        rw [eg] at hz ⊢
        exact ih _ _ _ (lnQ_ok h hf) hz
      · have eg : wkR g n N A M (k + 1) m Q i = ((m, Q), lnS g n N (lnF g n A M i).isSome m i) := by rw [wkR, if_neg hk, if_pos hf]
        rw [eg] at hz; exact absurd hz hf
theorem m_wAll (hn : n ≤ 1000) (hT1 : ∀ i, i < T → kd g n i ≠ 0) (hT2 : kd g n T = 0) (hN : N < 10) (hM : M ≤ 8) (hP : ∀ c, c < M → NmP (A c) (B c)) : ∀ k m Q i (I : Mi) (J : Mj), T - i ≤ k → i ≤ T → mTk I J g n i → I 422 0 = nI N → I 422 2 = nI M → (∀ c, c < M → J 423 c = B c) → WoM I 5 m Q → m ≤ 40 → ∃ I' J', (mlF I J I' J' ∧ ((wkR g n N A M k m Q i).2.2 = 0 → WoM I' 5 (wkR g n N A M k m Q i).1.1 (wkR g n N A M k m Q i).1.2) ∧ ((wkR g n N A M k m Q i).2.2 ≠ 0 → I' 420 9 = nI (wkR g n N A M k m Q i).2.2)) ∧ ∀ P, Wp L xs (d+4) 211 16 [some (.ref (420))] [] (mk I J R Z) P = (if (wkR g n N A M k m Q i).2.2 = 0 then Wp L xs (d+4) 211 35 [some (.ref (420))] [] (mk I' J' R Z) P else P (some (.int (nI (wkR g n N A M k m Q i).2.2))) (mk I' J' R Z)) := by
  obtain ⟨Ic, Jc, Rc, hc⟩ := ex_cut hT1 hT2
  intro k
  induction k with
  | zero =>
    intro m Q i I J hk hi h h0 h2 hJ hQ hm
    have hiT : i = T := by omega
    have h6 : I 420 6 = nI 0 := by rw [h.2.2.2.1, hiT, hT2]
    have eg : wkR g n N A M 0 m Q i = ((m, Q), (i, 0)) := by rw [wkR]
    rw [eg]
    refine ⟨I, J, ⟨mlF_r, fun _ => hQ, fun z => absurd rfl z⟩, fun P => ?_⟩
    rw [if_pos rfl]
    refine w211_16.trans ?_
    simp (discharger := omega) only [↓w211_1, ↓w211_2, ↓w211_5, ↓w211_6, ↓w211_9, ↓w211_10, ↓w211_11, ↓w211_12, ↓w211_13, ↓w211_17, ↓w211_20, ↓w211_23, ↓w211_24, ↓w211_27, ↓w211_30, ↓w211_31, ↓w211_34, ↓w211_36, ↓w211_37, ↓w211_38, ↓w211_41, ↓w211_42, rc420, g420_0, p420_0, g420_1, p420_1, g420_2, g420_3, p420_3, g420_4, p420_4, g420_5, p420_5, g420_6, p420_6, g420_7, p420_7, g420_8, p420_8, g420_9, p420_9, g420_10, g420_11, g420_12, g420_13, g420_14, g420_15, g420_16, g420_17, g420_18, g420_19, p420_19, g420_20, g420_21, g420_22, g420_23, g420_24, g420_25, g420_26, g420_27, g420_28, g420_29, g420_30, g420_31, g420_32, p420_32, g420_33, g420_34, g420_35, g420_36, g420_37, g420_38, g420_39, g420_40, g420_41, g420_42, g420_43, g420_44, g420_45, g420_46, g420_47, p420_47, g420_48, g420_49, p420_49, h6, mul8, mul8', mul4, mul4', nI_add, inT, nclN, ltT, ltF, leT, leF, eqT, eqF, nzF, m1F, m1T, shr, shg, bI0, bI1, bo_bI, bo_1, bo_0, eq10, eq00, frT1, frT2, frT3, fit0, fit1, fit2, fit3, true_and, and_true, ↓reduceIte, Nat.reduceAdd, Nat.reduceMul, and_self, not_false_eq_true, not_true_eq_false, Nat.zero_add, Nat.add_zero]
  | succ k ih =>
    intro m Q i I J hk hi h h0 h2 hJ hQ hm
    by_cases hz : kd g n i = 0
    · have h6 : I 420 6 = nI 0 := by rw [h.2.2.2.1, hz]
      have eg : wkR g n N A M (k + 1) m Q i = ((m, Q), (i, 0)) := by rw [wkR, if_pos hz]
      rw [eg]
      refine ⟨I, J, ⟨mlF_r, fun _ => hQ, fun z => absurd rfl z⟩, fun P => ?_⟩
      rw [if_pos rfl]
      refine w211_16.trans ?_
      simp (discharger := omega) only [↓w211_1, ↓w211_2, ↓w211_5, ↓w211_6, ↓w211_9, ↓w211_10, ↓w211_11, ↓w211_12, ↓w211_13, ↓w211_17, ↓w211_20, ↓w211_23, ↓w211_24, ↓w211_27, ↓w211_30, ↓w211_31, ↓w211_34, ↓w211_36, ↓w211_37, ↓w211_38, ↓w211_41, ↓w211_42, rc420, g420_0, p420_0, g420_1, p420_1, g420_2, g420_3, p420_3, g420_4, p420_4, g420_5, p420_5, g420_6, p420_6, g420_7, p420_7, g420_8, p420_8, g420_9, p420_9, g420_10, g420_11, g420_12, g420_13, g420_14, g420_15, g420_16, g420_17, g420_18, g420_19, p420_19, g420_20, g420_21, g420_22, g420_23, g420_24, g420_25, g420_26, g420_27, g420_28, g420_29, g420_30, g420_31, g420_32, p420_32, g420_33, g420_34, g420_35, g420_36, g420_37, g420_38, g420_39, g420_40, g420_41, g420_42, g420_43, g420_44, g420_45, g420_46, g420_47, p420_47, g420_48, g420_49, p420_49, h6, mul8, mul8', mul4, mul4', nI_add, inT, nclN, ltT, ltF, leT, leF, eqT, eqF, nzF, m1F, m1T, shr, shg, bI0, bI1, bo_bI, bo_1, bo_0, eq10, eq00, frT1, frT2, frT3, fit0, fit1, fit2, fit3, true_and, and_true, ↓reduceIte, Nat.reduceAdd, Nat.reduceMul, and_self, not_false_eq_true, not_true_eq_false, Nat.zero_add, Nat.add_zero]
    · have hk4 := kd_4 (g := g) (n := n) (i := i)
      have h6 : (I 420 6 = nI 0) = False := by rw [h.2.2.2.1]; exact eqF hz (by omega) (by decide)
      obtain ⟨I1, J1, ⟨f1, f2, f3⟩, f4⟩ := m_readsLine (L := L) (xs := xs) (d := d) (R := R) (Z := Z) (A := A) hn h hz h0 hN h2 hM hm hQ (fun q => by
        rw [lnF_m hP q]
        exact ff_cg fun c hc => by rw [hJ c hc])
      by_cases hf : (lnS g n N (lnF g n A M i).isSome m i).2 = 0
      · have eg : wkR g n N A M (k + 1) m Q i = wkR g n N A M k (m + 1) (lnQ g n A M Q m i) (lnS g n N (lnF g n A M i).isSome m i).1 := by rw [wkR, if_neg hz, if_neg (by simp [hf])]
        obtain ⟨a1, a2⟩ := f2 hf
        obtain ⟨z1, z2, z3, z4, z5, z6, z7⟩ := lnS_i hf
        have ok1 := lnS_ok (N := N) (bb := (lnF g n A M i).isSome) (m := m) hc hn hi
        have hJ1 : J1 423 = J 423 := f1.2.2.2.1 423 (by decide)
        have hI1 : I1 422 = I 422 := f1.1 422 (by decide) (by decide)
        obtain ⟨I', J', ⟨g1, g2, g3⟩, g4⟩ := ih (m + 1) (lnQ g n A M Q m i) _ I1 J1 (by omega) ok1.1 a1 (by rw [hI1]; exact h0) (by rw [hI1]; exact h2) (fun c hc => by rw [hJ1]; exact hJ c hc) a2 (by omega)
        rw [eg]
        refine ⟨I', J', ⟨mlF_t f1 g1, g2, g3⟩, fun P => ?_⟩
        rw [← g4 P]
        rw [decide_eq_true hf, bI_t] at f4
        refine w211_16.trans ?_
        simp (discharger := omega) only [↓w211_1, ↓w211_2, ↓w211_5, ↓w211_6, ↓w211_9, ↓w211_10, ↓w211_11, ↓w211_12, ↓w211_13, ↓w211_17, ↓w211_20, ↓w211_23, ↓w211_24, ↓w211_27, ↓w211_30, ↓w211_31, ↓w211_34, ↓w211_36, ↓w211_37, ↓w211_38, ↓w211_41, ↓w211_42, rc420, g420_0, p420_0, g420_1, p420_1, g420_2, g420_3, p420_3, g420_4, p420_4, g420_5, p420_5, g420_6, p420_6, g420_7, p420_7, g420_8, p420_8, g420_9, p420_9, g420_10, g420_11, g420_12, g420_13, g420_14, g420_15, g420_16, g420_17, g420_18, g420_19, p420_19, g420_20, g420_21, g420_22, g420_23, g420_24, g420_25, g420_26, g420_27, g420_28, g420_29, g420_30, g420_31, g420_32, p420_32, g420_33, g420_34, g420_35, g420_36, g420_37, g420_38, g420_39, g420_40, g420_41, g420_42, g420_43, g420_44, g420_45, g420_46, g420_47, p420_47, g420_48, g420_49, p420_49, h6, ↓f4, ↓kc_i, ↓kc_l, ↓kc_r, ↓kc_n, mul8, mul8', mul4, mul4', nI_add, inT, nclN, ltT, ltF, leT, leF, eqT, eqF, nzF, m1F, m1T, shr, shg, bI0, bI1, bo_bI, bo_1, bo_0, eq10, eq00, frT1, frT2, frT3, fit0, fit1, fit2, fit3, true_and, and_true, ↓reduceIte, Nat.reduceAdd, Nat.reduceMul, and_self, not_false_eq_true, not_true_eq_false, Nat.zero_add, Nat.add_zero]
      · have eg : wkR g n N A M (k + 1) m Q i = ((m, Q), lnS g n N (lnF g n A M i).isSome m i) := by rw [wkR, if_neg hz, if_pos hf]
        rw [eg]
        have h9 := f3 hf
        refine ⟨I1, J1, ⟨f1, fun z => absurd z hf, f3⟩, fun P => ?_⟩
        rw [if_neg hf]
        rw [decide_eq_false hf, bI_f] at f4
        refine w211_16.trans ?_
        simp (discharger := omega) only [↓w211_1, ↓w211_2, ↓w211_5, ↓w211_6, ↓w211_9, ↓w211_10, ↓w211_11, ↓w211_12, ↓w211_13, ↓w211_17, ↓w211_20, ↓w211_23, ↓w211_24, ↓w211_27, ↓w211_30, ↓w211_31, ↓w211_34, ↓w211_36, ↓w211_37, ↓w211_38, ↓w211_41, ↓w211_42, rc420, g420_0, p420_0, g420_1, p420_1, g420_2, g420_3, p420_3, g420_4, p420_4, g420_5, p420_5, g420_6, p420_6, g420_7, p420_7, g420_8, p420_8, g420_9, p420_9, g420_10, g420_11, g420_12, g420_13, g420_14, g420_15, g420_16, g420_17, g420_18, g420_19, p420_19, g420_20, g420_21, g420_22, g420_23, g420_24, g420_25, g420_26, g420_27, g420_28, g420_29, g420_30, g420_31, g420_32, p420_32, g420_33, g420_34, g420_35, g420_36, g420_37, g420_38, g420_39, g420_40, g420_41, g420_42, g420_43, g420_44, g420_45, g420_46, g420_47, p420_47, g420_48, g420_49, p420_49, h6, ↓f4, h9, ↓kc_i, ↓kc_l, ↓kc_r, ↓kc_n, mul8, mul8', mul4, mul4', nI_add, inT, nclN, ltT, ltF, leT, leF, eqT, eqF, nzF, m1F, m1T, shr, shg, bI0, bI1, bo_bI, bo_1, bo_0, eq10, eq00, frT1, frT2, frT3, fit0, fit1, fit2, fit3, true_and, and_true, ↓reduceIte, Nat.reduceAdd, Nat.reduceMul, and_self, not_false_eq_true, not_true_eq_false, Nat.zero_add, Nat.add_zero]
theorem m_work (hn : n ≤ 1000) (hK : K1 = 1000) (h1 : I 420 1 = nI n) (hs : sgM I g n) (h0 : I 422 0 = nI N) (hN : N < 10) (h2 : I 422 2 = nI M) (hM : M ≤ 8) (hP : ∀ c, c < M → NmP (A c) (J 423 c)) : ∃ I' J', (((∀ a, a ≠ 420 → (a < 443 ∨ 446 < a) → I' a = I a) ∧ (∀ k, k ≠ 0 → k ≠ 5 → I' 443 k = I 443 k) ∧ (∀ a, 444 ≤ a → a ≤ 446 → ∀ k, 40 ≤ k → k < 200 → I' a k = I a k) ∧ (∀ k, k ≠ 0 → k ≠ 1 → k ≠ 3 → k ≠ 4 → k ≠ 5 → k ≠ 6 → k ≠ 8 → k ≠ 9 → k ≠ 32 → I' 420 k = I 420 k) ∧ I' 420 0 = nI 0 ∧ I' 420 1 = nI 0 ∧ (∀ a, a ≠ 420 → J' a = J a) ∧ ∀ k, k ≠ 7 → J' 420 k = J 420 k) ∧ ((wkR g n N A M K1 0 Q 0).2.2 ≠ 0 → I' 443 0 = I 443 0 ∧ ∀ a, 444 ≤ a → a ≤ 446 → ∀ k, k < 40 → I' a k = I a k) ∧ ((wkR g n N A M K1 0 Q 0).2.2 = 0 → WoM I' 0 (wkR g n N A M K1 0 Q 0).1.1 (wkR g n N A M K1 0 Q 0).1.2 ∧ okW N M (wkR g n N A M K1 0 Q 0).1.1 (wkR g n N A M K1 0 Q 0).1.2)) ∧ ∀ P, Wp L xs (d+4) 211 0 [some (.ref (420))] [] (mk I J R Z) P = P (some (.int (nI (wkR g n N A M K1 0 Q 0).2.2))) (mk I' J' R Z) := by
  obtain ⟨T, hTn, hT1, hT2⟩ := ex_T (g := g) (n := n)
  generalize hI1 : st (st I 420 (upd (I 420) 0 (nI 0))) 443 (upd (I 443) 5 (nI 0)) = I1
  have o1 : ∀ a, a ≠ 420 → a ≠ 443 → I1 a = I a := fun a x1 x2 => by rw [← hI1, st_ne x2, st_ne x1]
  have e420 : I1 420 = upd (I 420) 0 (nI 0) := by rw [← hI1, st_ne (by decide), st_eq]
  have e443 : I1 443 = upd (I 443) 5 (nI 0) := by rw [← hI1, st_eq]
  obtain ⟨I2, J2, ⟨b1, b2, b3, b4, b5, b6⟩, b7⟩ := m_begins (L := L) (xs := xs) (R := R) (Z := Z) (J := J) (I := I1) hn (by rw [e420, upd_ne (by decide)]; exact h1) (fun k hk => by rw [o1 421 (by decide) (by decide)]; exact hs k hk)
  obtain ⟨I3, J3, ⟨c1, c2, c3⟩, c4⟩ := m_wAll (L := L) (xs := xs) (d := d) (R := R) (Z := Z) (A := A) (B := J 423) hn hT1 hT2 hN hM hP K1 0 Q 0 I2 J2 (by omega) (Nat.zero_le _) b1 (by rw [b2 422 (by decide), o1 422 (by decide) (by decide)]; exact h0) (by rw [b2 422 (by decide), o1 422 (by decide) (by decide)]; exact h2) (fun c _ => by rw [b5 423 (by decide)]) ⟨by rw [b2 443 (by decide), e443, upd_eq], fun k hk => absurd hk (Nat.not_lt_zero k)⟩ (by decide)
  have hok := wkR_ok (g := g) (n := n) (A := A) (N := N) (M := M) K1 0 Q 0 ⟨by decide, fun k hk => absurd hk (Nat.not_lt_zero k)⟩
  generalize wkR g n N A M K1 0 Q 0 = r at *
  have fo : ∀ a, a ≠ 420 → (a < 443 ∨ 446 < a) → I3 a = I a := fun a x1 x2 => by rw [c1.1 a x1 x2, b2 a x1, o1 a x1 (by omega)]
  have f3 : ∀ k, k ≠ 5 → I3 443 k = I 443 k := fun k hk => by rw [c1.2.2.1.1 k hk, b2 443 (by decide), e443, upd_ne hk]
  have fa : ∀ a, 444 ≤ a → a ≤ 446 → ∀ k, k < 200 → I3 a k = I a k := fun a x1 x2 k hk => by rw [c1.2.2.1.2 a x1 x2 k hk, b2 a (by omega), o1 a (by omega) (by omega)]
  have f0 : ∀ k, k ≠ 0 → k ≠ 1 → k ≠ 3 → k ≠ 4 → k ≠ 5 → k ≠ 6 → k ≠ 8 → k ≠ 9 → k ≠ 32 → I3 420 k = I 420 k := fun k y0 y1 y3 y4 y5 y6 y8 y9 y32 => by rw [c1.2.1 k y4 y5 y6 y8 y9 y32, b3 k y1 y3 y4 y5 y6 y8, e420, upd_ne y0]
  have f00 : I3 420 0 = nI 0 := by rw [c1.2.1 0 (by decide) (by decide) (by decide) (by decide) (by decide) (by decide), b3 0 (by decide) (by decide) (by decide) (by decide) (by decide) (by decide), e420, upd_eq]
  have f01 : I3 420 1 = nI 0 := by rw [c1.2.1 1 (by decide) (by decide) (by decide) (by decide) (by decide) (by decide), b4]
  have fJ : ∀ a, a ≠ 420 → J3 a = J a := fun a x => by rw [c1.2.2.2.1 a x, b5 a x]
  have fJ7 : ∀ k, k ≠ 7 → J3 420 k = J 420 k := fun k x => by rw [c1.2.2.2.2 k x, b6 k x]
  have head : ∀ P, Wp L xs (d+4) 211 0 [some (.ref (420))] [] (mk I J R Z) P = Wp L xs (d+4) 211 16 [some (.ref (420))] [] (mk I2 J2 R Z) P := fun P => by
    simp (discharger := omega) only [↓w211_0, ↓w211_1, ↓w211_2, ↓w211_5, ↓w211_6, ↓w211_9, ↓w211_10, ↓w211_11, ↓w211_12, ↓w211_13, ↓w211_17, ↓w211_20, ↓w211_23, ↓w211_24, ↓w211_27, ↓w211_30, ↓w211_31, ↓w211_34, ↓w211_35, ↓w211_36, ↓w211_37, ↓w211_38, ↓w211_41, ↓w211_42, rc420, g420_0, p420_0, g420_1, p420_1, g420_2, g420_3, p420_3, g420_4, p420_4, g420_5, p420_5, g420_6, p420_6, g420_7, p420_7, g420_8, p420_8, g420_9, p420_9, g420_10, g420_11, g420_12, g420_13, g420_14, g420_15, g420_16, g420_17, g420_18, g420_19, p420_19, g420_20, g420_21, g420_22, g420_23, g420_24, g420_25, g420_26, g420_27, g420_28, g420_29, g420_30, g420_31, g420_32, p420_32, g420_33, g420_34, g420_35, g420_36, g420_37, g420_38, g420_39, g420_40, g420_41, g420_42, g420_43, g420_44, g420_45, g420_46, g420_47, p420_47, g420_48, g420_49, p420_49, gi443, si443, st_ne, hI1, ↓b7, ↓kc_i, ↓kc_l, ↓kc_r, ↓kc_n, mul8, mul8', mul4, mul4', nI_add, inT, nclN, ltT, ltF, leT, leF, eqT, eqF, nzF, m1F, m1T, shr, shg, bI0, bI1, bo_bI, bo_1, bo_0, eq10, eq00, frT1, frT2, frT3, fit0, fit1, fit2, fit3, true_and, and_true, ↓reduceIte, Nat.reduceAdd, Nat.reduceMul, and_self, not_false_eq_true, not_true_eq_false, Nat.zero_add, Nat.add_zero]
  by_cases hz : r.2.2 = 0
  · have hW := c2 hz
    have hO := hok hz
    have ll := fun P => m_laysLines5 (L := L) (xs := xs) (d := d + 3) (P := P) (I := I3) (J := J3) (R := R) (Z := Z)
    have w0 := lyL_to (b := 0) hO.1 hW
    have lo : ∀ a, (a < 443 ∨ 446 < a) → lyL I3 5 0 40 a = I3 a := fun a x => by unfold lyL; rw [st_ne (by omega), st_ne (by omega), st_ne (by omega), st_ne (by omega)]
    refine ⟨lyL I3 5 0 40, J3, ⟨⟨fun a x1 x2 => by rw [lo a x2, fo a x1 x2], fun k y0 y5 => ?_, fun a x1 x2 k y1 y2 => ?_, fun k y0 y1 y3 y4 y5 y6 y8 y9 y32 => by rw [lo 420 (by decide)]; exact f0 k y0 y1 y3 y4 y5 y6 y8 y9 y32, by rw [lo 420 (by decide)]; exact f00, by rw [lo 420 (by decide)]; exact f01, fJ, fJ7⟩, fun z => absurd hz z, fun _ => ⟨w0, hO⟩⟩, fun P => ?_⟩
    · unfold lyL
      rw [st_ne (by decide), st_ne (by decide), st_ne (by decide), st_eq, upd_ne y0, f3 k y5]
    · rw [← fa a x1 x2 k y2]
      have ha : a = 444 ∨ a = 445 ∨ a = 446 := by omega
      unfold lyL
      rcases ha with e | e | e <;> subst e
      · rw [st_ne (by decide), st_ne (by decide), st_eq, cpy_o (by omega)]
      · rw [st_ne (by decide), st_eq, cpy_o (by omega)]
      · rw [st_eq, cpy_o (by omega)]
    · rw [head, c4 P, if_pos hz, hz]
      simp (discharger := omega) only [↓w211_0, ↓w211_1, ↓w211_2, ↓w211_5, ↓w211_6, ↓w211_9, ↓w211_10, ↓w211_11, ↓w211_12, ↓w211_13, ↓w211_17, ↓w211_20, ↓w211_23, ↓w211_24, ↓w211_27, ↓w211_30, ↓w211_31, ↓w211_34, ↓w211_35, ↓w211_36, ↓w211_37, ↓w211_38, ↓w211_41, ↓w211_42, rc420, g420_0, p420_0, g420_1, p420_1, g420_2, g420_3, p420_3, g420_4, p420_4, g420_5, p420_5, g420_6, p420_6, g420_7, p420_7, g420_8, p420_8, g420_9, p420_9, g420_10, g420_11, g420_12, g420_13, g420_14, g420_15, g420_16, g420_17, g420_18, g420_19, p420_19, g420_20, g420_21, g420_22, g420_23, g420_24, g420_25, g420_26, g420_27, g420_28, g420_29, g420_30, g420_31, g420_32, p420_32, g420_33, g420_34, g420_35, g420_36, g420_37, g420_38, g420_39, g420_40, g420_41, g420_42, g420_43, g420_44, g420_45, g420_46, g420_47, p420_47, g420_48, g420_49, p420_49, ↓ll, ↓kc_i, ↓kc_l, ↓kc_r, ↓kc_n, mul8, mul8', mul4, mul4', nI_add, inT, nclN, ltT, ltF, leT, leF, eqT, eqF, nzF, m1F, m1T, shr, shg, bI0, bI1, bo_bI, bo_1, bo_0, eq10, eq00, frT1, frT2, frT3, fit0, fit1, fit2, fit3, true_and, and_true, ↓reduceIte, Nat.reduceAdd, Nat.reduceMul, and_self, not_false_eq_true, not_true_eq_false, Nat.zero_add, Nat.add_zero]
  · refine ⟨I3, J3, ⟨⟨fo, fun k _ y5 => f3 k y5, fun a x1 x2 k _ y2 => fa a x1 x2 k y2, f0, f00, f01, fJ, fJ7⟩, fun _ => ⟨f3 0 (by decide), fun a x1 x2 k hk => fa a x1 x2 k (by omega)⟩, fun z => absurd z hz⟩, fun P => ?_⟩
    rw [head, c4 P, if_neg hz]
end P0
