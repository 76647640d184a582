/-! the model's marks -/
def lyL (I : Mi) (a b n : Nat) : Mi := st (st (st (st I 443 (upd (I 443) b (I 443 a))) 444 (va_cpy (I 444) (I 444) (40 * a) (40 * b) n)) 445 (va_cpy (I 445) (I 445) (40 * a) (40 * b) n)) 446 (va_cpy (I 446) (I 446) (40 * a) (40 * b) n)
def lyS (I : Mi) (a b n : Nat) : Mi := st (st (st (st I 447 (upd (I 447) b (I 447 a))) 448 (va_cpy (I 448) (I 448) (8 * a) (8 * b) n)) 449 (va_cpy (I 449) (I 449) (8 * a) (8 * b) n)) 450 (va_cpy (fun k => na 3 (I 450 k)) (I 450) (8 * a) (8 * b) n)
section F7
variable {L : Nat} {xs : Nat → Int32} {d : Nat} {P : Option Value → Hp → Prop} {I I0 : Mi} {J : Mj} {R : Mr} {Z : Mz} {r c r' c' k l N M o n m B a b t w nx mn s sd A j : Nat} {x y z : Int32} {V V' V0 W0 W : Vw} {f f1 f4 g : Nat → Int32} {G G' : Gv} {U : Uq} {Q : Wq} {S : Sq} {h : Hp}
theorem st3 {p q r : Nat} {f g h f' g' h' : Nat → Int32} (h1 : p ≠ q) (h2 : p ≠ r) (h3 : q ≠ r) : st (st (st (st (st (st I0 p f) q g) r h) p f') q g') r h' = st (st (st I0 p f') q g') r h' := by
  funext k
  by_cases e1 : k = r
  · subst e1; rw [st_eq, st_eq]
  · rw [st_ne e1, st_ne e1]
    by_cases e2 : k = q
    · subst e2; rw [st_eq, st_eq]
    · rw [st_ne e2, st_ne e2]
      by_cases e3 : k = p
      · subst e3; rw [st_eq, st_eq]
      · rw [st_ne e3, st_ne e3, st_ne e1, st_ne e2, st_ne e3]
theorem cpy_0 : va_cpy f g A B 0 = g := by funext k; unfold va_cpy; rw [if_neg (by omega)]
theorem cpy_s (h : x = f (A + n)) : upd (va_cpy f g A B n) (B + n) x = va_cpy f g A B (n + 1) := by
  funext k; unfold upd va_cpy
  by_cases hk : k = B + n
  · subst hk
    rw [if_pos rfl, if_pos (by omega), show B + n - B = n by omega, h]
  · rw [if_neg hk]
    by_cases hk2 : B ≤ k ∧ k < B + n
    · rw [if_pos hk2, if_pos (by omega)]
    · rw [if_neg hk2, if_neg (by omega)]
theorem cpy_o (h : k < B ∨ B + n ≤ k) : va_cpy f g A B n k = g k := by unfold va_cpy; rw [if_neg (by omega)]
theorem cpy_i (h : k < n) : va_cpy f g A B n (B + k) = f (A + k) := by unfold va_cpy; rw [if_pos (by omega), show B + k - B = k by omega]
theorem m_laysLines (ha : a < 5) (hb : b < 5) (hne : a ≠ b) : Wp L xs d 205 0 [some (.ref (420)), some (.int (nI a)), some (.int (nI b)), none] [] (mk (pm I V) J R Z) P = P none (mk (pm (lyL I a b 40) V) J R Z) := by
  have ea : nI 40 * nI a = nI (40 * a) := pk_mul _ _
  have eb : nI 40 * nI b = nI (40 * b) := pk_mul _ _
  have key : ∀ n, n ≤ 40 → Wp L xs d 205 14 [some (.ref (420)), some (.int (nI a)), some (.int (nI b)), some (.int (nI 0))] [] (mk (pm (lyL I a b 0) V) J R Z) P = Wp L xs d 205 14 [some (.ref (420)), some (.int (nI a)), some (.int (nI b)), some (.int (nI n))] [] (mk (pm (lyL I a b n) V) J R Z) P := by
    intro n
    induction n with
    | zero => intro _; exact Eq.refl _
    | succ n ih =>
      intro hn
      rw [ih (by omega)]
      refine w205_14.trans ?_
      have q1 : ∀ f : Nat → Int32, upd (va_cpy f f (40 * a) (40 * b) n) (40 * b + n) (f (40 * a + n)) = va_cpy f f (40 * a) (40 * b) (n + 1) := fun f => cpy_s rfl
      have o1 : ∀ f : Nat → Int32, va_cpy f f (40 * a) (40 * b) n (40 * a + n) = f (40 * a + n) := fun f => cpy_o (by omega)
      unfold lyL
      simp (discharger := omega) only [↓w205_0, ↓w205_1, ↓w205_4, ↓w205_5, ↓w205_6, ↓w205_9, ↓w205_10, ↓w205_11, ↓w205_12, ↓w205_13, ↓w205_15, ↓w205_17, ↓w205_20, ↓w205_21, ↓w205_24, ↓w205_26, ↓w205_27, ↓w205_28, ↓w205_29, ↓w205_30, ↓w205_31, ↓w205_34, ↓w205_36, ↓w205_37, ↓w205_38, ↓w205_39, ↓w205_40, ↓w205_41, ↓w205_42, ↓w205_43, ↓w205_46, ↓w205_48, ↓w205_49, ↓w205_50, ↓w205_51, ↓w205_52, ↓w205_53, ↓w205_56, ↓w205_58, ↓w205_59, ↓w205_60, ↓w205_61, ↓w205_62, ↓w205_63, ↓w205_64, ↓w205_65, ↓w205_68, ↓w205_70, ↓w205_71, ↓w205_72, ↓w205_73, ↓w205_74, ↓w205_75, ↓w205_78, ↓w205_80, ↓w205_81, ↓w205_82, ↓w205_83, ↓w205_84, ↓w205_85, ↓w205_86, ↓w205_89, ↓w205_92, rc420, g420_0, p420_0, g420_1, p420_1, g420_2, g420_3, p420_3, g420_4, p420_4, g420_5, p420_5, g420_6, p420_6, g420_7, p420_7, g420_8, p420_8, g420_9, p420_9, g420_10, g420_11, g420_12, g420_13, g420_14, g420_15, g420_16, g420_17, g420_18, g420_19, p420_19, g420_20, g420_21, g420_22, g420_23, g420_24, g420_25, g420_26, g420_27, g420_28, g420_29, g420_30, g420_31, g420_32, p420_32, g420_33, g420_34, g420_35, g420_36, g420_37, g420_38, g420_39, g420_40, g420_41, g420_42, g420_43, g420_44, g420_45, g420_46, g420_47, p420_47, g420_48, g420_49, p420_49, gi443, si443, gi444, si444, gi445, si445, gi446, si446, pm_eq, pm_ne, st_pm, st_pmne, rd1, rd2, rd3, rd4, rd5, rd6, rd2s, rd3s, rd4s, rd5s, rd7, rd8, rd9, rd10, rd11, rd0, rdc, wr1, wr2, wr3, wr4, wr5, wr6, wr2s, wr3s, wr4s, wr5s, wr7, wr8, wr9, wr10, wr11, wr0, wrc, st_ne, st_eq, st_st, ea, eb, st_ne, st_eq, o1, q1, mul8, mul8', mul4, mul4', nI_add, inT, nclN, ltT, ltF, leT, leF, eqT, eqF, nzF, m1F, m1T, shr, shg, bI0, bI1, bo_bI, bo_1, bo_0, eq10, eq00, frT1, frT2, frT3, fit0, fit1, fit2, fit3, true_and, and_true, ↓reduceIte, Nat.reduceAdd, Nat.reduceMul, and_self, not_false_eq_true, not_true_eq_false, Nat.zero_add, Nat.add_zero]
      rw [st3 (by decide) (by decide) (by decide)]
  have e0 : st I 443 (upd (I 443) b (I 443 a)) = lyL I a b 0 := by
    unfold lyL
    rw [cpy_0, cpy_0, cpy_0]
    funext k
    by_cases e1 : k = 446
    · subst e1; rw [st_eq, st_ne (by decide)]
    · rw [st_ne (a := 446) e1]
      by_cases e2 : k = 445
      · subst e2; rw [st_eq, st_ne (by decide)]
      · rw [st_ne (a := 445) e2]
        by_cases e3 : k = 444
        · subst e3; rw [st_eq, st_ne (by decide)]
        · rw [st_ne (a := 444) e3]
  simp (discharger := omega) only [↓w205_0, ↓w205_1, ↓w205_4, ↓w205_5, ↓w205_6, ↓w205_9, ↓w205_10, ↓w205_11, ↓w205_12, ↓w205_13, ↓w205_15, ↓w205_17, ↓w205_20, ↓w205_21, ↓w205_24, ↓w205_26, ↓w205_27, ↓w205_28, ↓w205_29, ↓w205_30, ↓w205_31, ↓w205_34, ↓w205_36, ↓w205_37, ↓w205_38, ↓w205_39, ↓w205_40, ↓w205_41, ↓w205_42, ↓w205_43, ↓w205_46, ↓w205_48, ↓w205_49, ↓w205_50, ↓w205_51, ↓w205_52, ↓w205_53, ↓w205_56, ↓w205_58, ↓w205_59, ↓w205_60, ↓w205_61, ↓w205_62, ↓w205_63, ↓w205_64, ↓w205_65, ↓w205_68, ↓w205_70, ↓w205_71, ↓w205_72, ↓w205_73, ↓w205_74, ↓w205_75, ↓w205_78, ↓w205_80, ↓w205_81, ↓w205_82, ↓w205_83, ↓w205_84, ↓w205_85, ↓w205_86, ↓w205_89, ↓w205_92, rc420, g420_0, p420_0, g420_1, p420_1, g420_2, g420_3, p420_3, g420_4, p420_4, g420_5, p420_5, g420_6, p420_6, g420_7, p420_7, g420_8, p420_8, g420_9, p420_9, g420_10, g420_11, g420_12, g420_13, g420_14, g420_15, g420_16, g420_17, g420_18, g420_19, p420_19, g420_20, g420_21, g420_22, g420_23, g420_24, g420_25, g420_26, g420_27, g420_28, g420_29, g420_30, g420_31, g420_32, p420_32, g420_33, g420_34, g420_35, g420_36, g420_37, g420_38, g420_39, g420_40, g420_41, g420_42, g420_43, g420_44, g420_45, g420_46, g420_47, p420_47, g420_48, g420_49, p420_49, gi443, si443, pm_eq, pm_ne, st_pm, st_pmne, rd1, rd2, rd3, rd4, rd5, rd6, rd2s, rd3s, rd4s, rd5s, rd7, rd8, rd9, rd10, rd11, rd0, rdc, wr1, wr2, wr3, wr4, wr5, wr6, wr2s, wr3s, wr4s, wr5s, wr7, wr8, wr9, wr10, wr11, wr0, wrc, st_ne, st_eq, st_st, e0, mul8, mul8', mul4, mul4', nI_add, inT, nclN, ltT, ltF, leT, leF, eqT, eqF, nzF, m1F, m1T, shr, shg, bI0, bI1, bo_bI, bo_1, bo_0, eq10, eq00, frT1, frT2, frT3, fit0, fit1, fit2, fit3, true_and, and_true, ↓reduceIte, Nat.reduceAdd, Nat.reduceMul, and_self, not_false_eq_true, not_true_eq_false, Nat.zero_add, Nat.add_zero]
  rw [key 40 (Nat.le_refl _)]
  refine w205_14.trans ?_
  simp (discharger := omega) only [↓w205_0, ↓w205_1, ↓w205_4, ↓w205_5, ↓w205_6, ↓w205_9, ↓w205_10, ↓w205_11, ↓w205_12, ↓w205_13, ↓w205_15, ↓w205_17, ↓w205_20, ↓w205_21, ↓w205_24, ↓w205_26, ↓w205_27, ↓w205_28, ↓w205_29, ↓w205_30, ↓w205_31, ↓w205_34, ↓w205_36, ↓w205_37, ↓w205_38, ↓w205_39, ↓w205_40, ↓w205_41, ↓w205_42, ↓w205_43, ↓w205_46, ↓w205_48, ↓w205_49, ↓w205_50, ↓w205_51, ↓w205_52, ↓w205_53, ↓w205_56, ↓w205_58, ↓w205_59, ↓w205_60, ↓w205_61, ↓w205_62, ↓w205_63, ↓w205_64, ↓w205_65, ↓w205_68, ↓w205_70, ↓w205_71, ↓w205_72, ↓w205_73, ↓w205_74, ↓w205_75, ↓w205_78, ↓w205_80, ↓w205_81, ↓w205_82, ↓w205_83, ↓w205_84, ↓w205_85, ↓w205_86, ↓w205_89, ↓w205_92, mul8, mul8', mul4, mul4', nI_add, inT, nclN, ltT, ltF, leT, leF, eqT, eqF, nzF, m1F, m1T, shr, shg, bI0, bI1, bo_bI, bo_1, bo_0, eq10, eq00, frT1, frT2, frT3, fit0, fit1, fit2, fit3, true_and, and_true, ↓reduceIte, Nat.reduceAdd, Nat.reduceMul, and_self, not_false_eq_true, not_true_eq_false, Nat.zero_add, Nat.add_zero]
theorem m_laysSeen (ha : a < 5) (hb : b < 5) (hne : a ≠ b) : Wp L xs d 206 0 [some (.ref (420)), some (.int (nI a)), some (.int (nI b)), none] [] (mk (pm I V) J R Z) P = P none (mk (pm (lyS I a b 8) V) J R Z) := by
  have key : ∀ n, n ≤ 8 → Wp L xs d 206 14 [some (.ref (420)), some (.int (nI a)), some (.int (nI b)), some (.int (nI 0))] [] (mk (pm (lyS I a b 0) V) J R Z) P = Wp L xs d 206 14 [some (.ref (420)), some (.int (nI a)), some (.int (nI b)), some (.int (nI n))] [] (mk (pm (lyS I a b n) V) J R Z) P := by
    intro n
    induction n with
    | zero => intro _; exact Eq.refl _
    | succ n ih =>
      intro hn
      rw [ih (by omega)]
      refine w206_14.trans ?_
      have o1 : ∀ f g : Nat → Int32, va_cpy f g (8 * a) (8 * b) n (8 * a + n) = g (8 * a + n) := fun f g => cpy_o (by omega)
      have q1 : ∀ f : Nat → Int32, upd (va_cpy f f (8 * a) (8 * b) n) (8 * b + n) (f (8 * a + n)) = va_cpy f f (8 * a) (8 * b) (n + 1) := fun f => cpy_s rfl
      have q2 : upd (va_cpy (fun k => na 3 (I 450 k)) (I 450) (8 * a) (8 * b) n) (8 * b + n) (na 3 (I 450 (8 * a + n))) = va_cpy (fun k => na 3 (I 450 k)) (I 450) (8 * a) (8 * b) (n + 1) := cpy_s rfl
      unfold lyS
      simp (discharger := omega) only [↓w206_0, ↓w206_1, ↓w206_4, ↓w206_5, ↓w206_6, ↓w206_9, ↓w206_10, ↓w206_11, ↓w206_12, ↓w206_13, ↓w206_15, ↓w206_17, ↓w206_20, ↓w206_21, ↓w206_24, ↓w206_26, ↓w206_27, ↓w206_28, ↓w206_29, ↓w206_30, ↓w206_31, ↓w206_34, ↓w206_36, ↓w206_37, ↓w206_38, ↓w206_39, ↓w206_40, ↓w206_41, ↓w206_42, ↓w206_43, ↓w206_46, ↓w206_48, ↓w206_49, ↓w206_50, ↓w206_51, ↓w206_52, ↓w206_53, ↓w206_56, ↓w206_58, ↓w206_59, ↓w206_60, ↓w206_61, ↓w206_62, ↓w206_63, ↓w206_64, ↓w206_65, ↓w206_68, ↓w206_70, ↓w206_71, ↓w206_72, ↓w206_73, ↓w206_74, ↓w206_75, ↓w206_78, ↓w206_80, ↓w206_81, ↓w206_82, ↓w206_83, ↓w206_84, ↓w206_85, ↓w206_86, ↓w206_89, ↓w206_92, rc420, g420_0, p420_0, g420_1, p420_1, g420_2, g420_3, p420_3, g420_4, p420_4, g420_5, p420_5, g420_6, p420_6, g420_7, p420_7, g420_8, p420_8, g420_9, p420_9, g420_10, g420_11, g420_12, g420_13, g420_14, g420_15, g420_16, g420_17, g420_18, g420_19, p420_19, g420_20, g420_21, g420_22, g420_23, g420_24, g420_25, g420_26, g420_27, g420_28, g420_29, g420_30, g420_31, g420_32, p420_32, g420_33, g420_34, g420_35, g420_36, g420_37, g420_38, g420_39, g420_40, g420_41, g420_42, g420_43, g420_44, g420_45, g420_46, g420_47, p420_47, g420_48, g420_49, p420_49, gi447, si447, gi448, si448, gi449, si449, gi450, si450, pm_eq, pm_ne, st_pm, st_pmne, rd1, rd2, rd3, rd4, rd5, rd6, rd2s, rd3s, rd4s, rd5s, rd7, rd8, rd9, rd10, rd11, rd0, rdc, wr1, wr2, wr3, wr4, wr5, wr6, wr2s, wr3s, wr4s, wr5s, wr7, wr8, wr9, wr10, wr11, wr0, wrc, st_ne, st_eq, st_st, st_ne, st_eq, o1, q1, q2, mul8, mul8', mul4, mul4', nI_add, inT, nclN, ltT, ltF, leT, leF, eqT, eqF, nzF, m1F, m1T, shr, shg, bI0, bI1, bo_bI, bo_1, bo_0, eq10, eq00, frT1, frT2, frT3, fit0, fit1, fit2, fit3, true_and, and_true, ↓reduceIte, Nat.reduceAdd, Nat.reduceMul, and_self, not_false_eq_true, not_true_eq_false, Nat.zero_add, Nat.add_zero]
      rw [st3 (by decide) (by decide) (by decide)]
  have e0 : st I 447 (upd (I 447) b (I 447 a)) = lyS I a b 0 := by
    unfold lyS
    rw [cpy_0, cpy_0, cpy_0]
    funext k
    by_cases e1 : k = 450
    · subst e1; rw [st_eq, st_ne (by decide)]
    · rw [st_ne (a := 450) e1]
      by_cases e2 : k = 449
      · subst e2; rw [st_eq, st_ne (by decide)]
      · rw [st_ne (a := 449) e2]
        by_cases e3 : k = 448
        · subst e3; rw [st_eq, st_ne (by decide)]
        · rw [st_ne (a := 448) e3]
  simp (discharger := omega) only [↓w206_0, ↓w206_1, ↓w206_4, ↓w206_5, ↓w206_6, ↓w206_9, ↓w206_10, ↓w206_11, ↓w206_12, ↓w206_13, ↓w206_15, ↓w206_17, ↓w206_20, ↓w206_21, ↓w206_24, ↓w206_26, ↓w206_27, ↓w206_28, ↓w206_29, ↓w206_30, ↓w206_31, ↓w206_34, ↓w206_36, ↓w206_37, ↓w206_38, ↓w206_39, ↓w206_40, ↓w206_41, ↓w206_42, ↓w206_43, ↓w206_46, ↓w206_48, ↓w206_49, ↓w206_50, ↓w206_51, ↓w206_52, ↓w206_53, ↓w206_56, ↓w206_58, ↓w206_59, ↓w206_60, ↓w206_61, ↓w206_62, ↓w206_63, ↓w206_64, ↓w206_65, ↓w206_68, ↓w206_70, ↓w206_71, ↓w206_72, ↓w206_73, ↓w206_74, ↓w206_75, ↓w206_78, ↓w206_80, ↓w206_81, ↓w206_82, ↓w206_83, ↓w206_84, ↓w206_85, ↓w206_86, ↓w206_89, ↓w206_92, rc420, g420_0, p420_0, g420_1, p420_1, g420_2, g420_3, p420_3, g420_4, p420_4, g420_5, p420_5, g420_6, p420_6, g420_7, p420_7, g420_8, p420_8, g420_9, p420_9, g420_10, g420_11, g420_12, g420_13, g420_14, g420_15, g420_16, g420_17, g420_18, g420_19, p420_19, g420_20, g420_21, g420_22, g420_23, g420_24, g420_25, g420_26, g420_27, g420_28, g420_29, g420_30, g420_31, g420_32, p420_32, g420_33, g420_34, g420_35, g420_36, g420_37, g420_38, g420_39, g420_40, g420_41, g420_42, g420_43, g420_44, g420_45, g420_46, g420_47, p420_47, g420_48, g420_49, p420_49, gi447, si447, gi448, si448, gi449, si449, gi450, si450, pm_eq, pm_ne, st_pm, st_pmne, rd1, rd2, rd3, rd4, rd5, rd6, rd2s, rd3s, rd4s, rd5s, rd7, rd8, rd9, rd10, rd11, rd0, rdc, wr1, wr2, wr3, wr4, wr5, wr6, wr2s, wr3s, wr4s, wr5s, wr7, wr8, wr9, wr10, wr11, wr0, wrc, st_ne, st_eq, st_st, e0, mul8, mul8', mul4, mul4', nI_add, inT, nclN, ltT, ltF, leT, leF, eqT, eqF, nzF, m1F, m1T, shr, shg, bI0, bI1, bo_bI, bo_1, bo_0, eq10, eq00, frT1, frT2, frT3, fit0, fit1, fit2, fit3, true_and, and_true, ↓reduceIte, Nat.reduceAdd, Nat.reduceMul, and_self, not_false_eq_true, not_true_eq_false, Nat.zero_add, Nat.add_zero]
  rw [key 8 (Nat.le_refl _)]
  refine w206_14.trans ?_
  simp (discharger := omega) only [↓w206_0, ↓w206_1, ↓w206_4, ↓w206_5, ↓w206_6, ↓w206_9, ↓w206_10, ↓w206_11, ↓w206_12, ↓w206_13, ↓w206_15, ↓w206_17, ↓w206_20, ↓w206_21, ↓w206_24, ↓w206_26, ↓w206_27, ↓w206_28, ↓w206_29, ↓w206_30, ↓w206_31, ↓w206_34, ↓w206_36, ↓w206_37, ↓w206_38, ↓w206_39, ↓w206_40, ↓w206_41, ↓w206_42, ↓w206_43, ↓w206_46, ↓w206_48, ↓w206_49, ↓w206_50, ↓w206_51, ↓w206_52, ↓w206_53, ↓w206_56, ↓w206_58, ↓w206_59, ↓w206_60, ↓w206_61, ↓w206_62, ↓w206_63, ↓w206_64, ↓w206_65, ↓w206_68, ↓w206_70, ↓w206_71, ↓w206_72, ↓w206_73, ↓w206_74, ↓w206_75, ↓w206_78, ↓w206_80, ↓w206_81, ↓w206_82, ↓w206_83, ↓w206_84, ↓w206_85, ↓w206_86, ↓w206_89, ↓w206_92, mul8, mul8', mul4, mul4', nI_add, inT, nclN, ltT, ltF, leT, leF, eqT, eqF, nzF, m1F, m1T, shr, shg, bI0, bI1, bo_bI, bo_1, bo_0, eq10, eq00, frT1, frT2, frT3, fit0, fit1, fit2, fit3, true_and, and_true, ↓reduceIte, Nat.reduceAdd, Nat.reduceMul, and_self, not_false_eq_true, not_true_eq_false, Nat.zero_add, Nat.add_zero]
theorem lyL_ne (h : k < 443 ∨ 446 < k) : lyL I a b n k = I k := by
  unfold lyL; rw [st_ne (by omega), st_ne (by omega), st_ne (by omega), st_ne (by omega)]
theorem lyS_ne (h : k < 447 ∨ 450 < k) : lyS I a b n k = I k := by
  unfold lyS; rw [st_ne (by omega), st_ne (by omega), st_ne (by omega), st_ne (by omega)]
theorem lyL_to (hm : m ≤ 40) (hW : WoM I a m Q) : WoM (lyL I a b 40) b m Q := by
  obtain ⟨h0, h1⟩ := hW
  unfold lyL
  refine ⟨?_, fun k hk => ?_⟩
  · rw [st_ne (by decide), st_ne (by decide), st_ne (by decide), st_eq, upd_eq, h0]
  · obtain ⟨e1, e2, e3⟩ := h1 k hk
    refine ⟨?_, fun q => ?_, fun q => ?_⟩
    · rw [st_ne (by decide), st_ne (by decide), st_eq, cpy_i (by omega), e1]
    · rw [st_ne (by decide), st_eq, cpy_i (by omega), e2 q]
    · rw [st_eq, cpy_i (by omega), e3 q]
theorem lyL_ot (hm : m ≤ 40) (hc : c ≠ b) (hW : WoM I c m Q) : WoM (lyL I a b 40) c m Q := by
  obtain ⟨h0, h1⟩ := hW
  unfold lyL
  refine ⟨?_, fun k hk => ?_⟩
  · rw [st_ne (by decide), st_ne (by decide), st_ne (by decide), st_eq, upd_ne hc, h0]
  · obtain ⟨e1, e2, e3⟩ := h1 k hk
    refine ⟨?_, fun q => ?_, fun q => ?_⟩
    · rw [st_ne (by decide), st_ne (by decide), st_eq, cpy_o (by omega), e1]
    · rw [st_ne (by decide), st_eq, cpy_o (by omega), e2 q]
    · rw [st_eq, cpy_o (by omega), e3 q]
theorem lyS_to (hm : m ≤ 8) (hS : SeM I a m S) : SeM (lyS I a b 8) b m S := by
  obtain ⟨h0, h1⟩ := hS
  unfold lyS
  refine ⟨?_, fun k hk => ?_⟩
  · rw [st_ne (by decide), st_ne (by decide), st_ne (by decide), st_eq, upd_eq, h0]
  · obtain ⟨e1, e2, e3⟩ := h1 k hk
    refine ⟨?_, ?_, ?_⟩
    · rw [st_ne (by decide), st_ne (by decide), st_eq, cpy_i (by omega), e1]
    · rw [st_ne (by decide), st_eq, cpy_i (by omega), e2]
    · rw [st_eq, cpy_i (by omega)]
      rw [e3, na3]
theorem lyS_ot (hm : m ≤ 8) (hc : c ≠ b) (hS : SeM I c m S) : SeM (lyS I a b 8) c m S := by
  obtain ⟨h0, h1⟩ := hS
  unfold lyS
  refine ⟨?_, fun k hk => ?_⟩
  · rw [st_ne (by decide), st_ne (by decide), st_ne (by decide), st_eq, upd_ne hc, h0]
  · obtain ⟨e1, e2, e3⟩ := h1 k hk
    refine ⟨?_, ?_, ?_⟩
    · rw [st_ne (by decide), st_ne (by decide), st_eq, cpy_o (by omega), e1]
    · rw [st_ne (by decide), st_eq, cpy_o (by omega), e2]
    · rw [st_eq, cpy_o (by omega), e3]
/-- what a mark holds and gives back, as the model keeps it -/
def mhL (I : Mi) (j a b : Nat) : Mi := lyS (lyL (st (st I 420 (upd (I 420) 0 (nI 0))) 456 (upd (I 456) j (nI 1))) a b 40) a b 8
def mhI (I : Mi) (V : Vw) (j : Nat) : Mi := st (mhL I j 0 (1 + j)) 454 (va_cpy (row V) (I 454) 0 (291 * j) 291)
def mbI (I : Mi) (j : Nat) : Mi := st (mhL I j (1 + j) 0) 420 (upd (upd (I 420) 0 (nI 0)) 47 (nI 0))
theorem in4 (hj : j < 4) : inr (nI j) (nI 0) (nI 3) = true := by
  have hj' : j = 0 ∨ j = 1 ∨ j = 2 ∨ j = 3 := by omega
  rcases hj' with rfl | rfl | rfl | rfl <;> decide
theorem na31 : na 3 (nI 1) = nI 1 := by decide
theorem m_hold (hj : j < 4) : Wp L xs (d+1) 310 0 [some (.ref (420)), some (.int (nI j)), some (.int (nI 0)), none, none] [] (mk (pm I V) J R Z) P = P (some (.int (nI 1))) (mk (pm (mhI I V j) V) J R Z) := by
  have e454 : mhL I j 0 (1 + j) 454 = I 454 := by
    unfold mhL; rw [lyS_ne (by omega), lyL_ne (by omega), st_ne (by decide), st_ne (by decide)]
  have hcp := fun P => m_copies (L := L) (xs := xs) (d := d) (P := P) (I := pm (mhL I j 0 (1 + j)) V) (J := J) (R := R) (Z := Z) (fa := 451) (ta := 454) (nf := 291) (nt := 1164) (a := 0) (b := 291 * j) (by decide) rfl (by decide) rfl (by decide) (by decide) (by omega) (by decide) (by decide)
  rw [pm_eq, pm_ne (by decide), st_pmne (by decide), e454] at hcp
  have h1 := fun P => m_laysLines (L := L) (xs := xs) (d := d) (P := P) (I := st (st I 420 (upd (I 420) 0 (nI 0))) 456 (upd (I 456) j (nI 1))) (V := V) (J := J) (R := R) (Z := Z) (a := 0) (b := 1 + j) (by omega) (by omega) (by omega)
  have h2 := fun P => m_laysSeen (L := L) (xs := xs) (d := d) (P := P) (I := lyL (st (st I 420 (upd (I 420) 0 (nI 0))) 456 (upd (I 456) j (nI 1))) 0 (1 + j) 40) (V := V) (J := J) (R := R) (Z := Z) (a := 0) (b := 1 + j) (by omega) (by omega) (by omega)
  have e291 : nI 291 * nI j = nI (291 * j) := pk_mul _ _
  have eL : lyS (lyL (st (st I 420 (upd (I 420) 0 (nI 0))) 456 (upd (I 456) j (nI 1))) 0 (1 + j) 40) 0 (1 + j) 8 = mhL I j 0 (1 + j) := by unfold mhL; exact Eq.refl _
  rw [eL] at h2
  have eI : st (mhL I j 0 (1 + j)) 454 (va_cpy (row V) (I 454) 0 (291 * j) 291) = mhI I V j := by unfold mhI; exact Eq.refl _
  rw [eI] at hcp
  simp (discharger := omega) only [↓w310_0, ↓w310_1, ↓w310_2, ↓w310_5, ↓w310_6, ↓w310_7, ↓w310_8, ↓w310_11, ↓w310_14, ↓w310_15, ↓w310_18, ↓w310_19, ↓w310_22, ↓w310_23, ↓w310_24, ↓w310_27, ↓w310_28, ↓w310_29, ↓w310_30, ↓w310_33, ↓w310_34, ↓w310_35, ↓w310_36, ↓w310_37, ↓w310_40, ↓w310_41, ↓w310_42, ↓w310_43, ↓w310_46, ↓w310_47, ↓w310_48, ↓w310_49, ↓w310_52, ↓w310_53, ↓w310_56, ↓w310_57, ↓w310_58, ↓w310_59, ↓w310_61, ↓w310_62, ↓w310_63, ↓w310_65, ↓w310_68, ↓w310_69, ↓w310_70, ↓w310_72, ↓w310_75, ↓w310_76, ↓w310_79, ↓w310_80, ↓w310_83, ↓w310_86, ↓w310_87, ↓w310_88, ↓w310_89, ↓w310_92, ↓w310_93, ↓w310_96, ↓w310_97, ↓w310_98, ↓w310_101, ↓w310_104, ↓w310_105, ↓w310_108, ↓w310_109, ↓w310_110, ↓w310_113, ↓w310_116, ↓w310_117, ↓w310_118, ↓w310_121, ↓w310_122, ↓m_within, in4 hj, bI_t, ↓h1, ↓h2, ↓hcp, e291, na31, st_ne, ↓kc_i, ↓kc_l, ↓kc_r, ↓kc_n, rc420, g420_0, p420_0, g420_1, p420_1, g420_2, g420_3, p420_3, g420_4, p420_4, g420_5, p420_5, g420_6, p420_6, g420_7, p420_7, g420_8, p420_8, g420_9, p420_9, g420_10, g420_11, g420_12, g420_13, g420_14, g420_15, g420_16, g420_17, g420_18, g420_19, p420_19, g420_20, g420_21, g420_22, g420_23, g420_24, g420_25, g420_26, g420_27, g420_28, g420_29, g420_30, g420_31, g420_32, p420_32, g420_33, g420_34, g420_35, g420_36, g420_37, g420_38, g420_39, g420_40, g420_41, g420_42, g420_43, g420_44, g420_45, g420_46, g420_47, p420_47, g420_48, g420_49, p420_49, gi451, si451, gi456, si456, pm_eq, pm_ne, st_pm, st_pmne, rd1, rd2, rd3, rd4, rd5, rd6, rd2s, rd3s, rd4s, rd5s, rd7, rd8, rd9, rd10, rd11, rd0, rdc, wr1, wr2, wr3, wr4, wr5, wr6, wr2s, wr3s, wr4s, wr5s, wr7, wr8, wr9, wr10, wr11, wr0, wrc, st_ne, st_eq, st_st, mul8, mul8', mul4, mul4', nI_add, inT, nclN, ltT, ltF, leT, leF, eqT, eqF, nzF, m1F, m1T, shr, shg, bI0, bI1, bo_bI, bo_1, bo_0, eq10, eq00, frT1, frT2, frT3, fit0, fit1, fit2, fit3, true_and, and_true, ↓reduceIte, Nat.reduceAdd, Nat.reduceMul, and_self, not_false_eq_true, not_true_eq_false, Nat.zero_add, Nat.add_zero]
theorem m_back (hj : j < 4) (hb : I 456 j = nI 1) (hV : ∀ k, k < 291 → I 454 (291 * j + k) = row V0 k) : Wp L xs (d+1) 310 0 [some (.ref (420)), some (.int (nI j)), some (.int (nI 1)), none, none] [] (mk (pm I V) J R Z) P = P (some (.int (nI 1))) (mk (pm (mbI I j) V0) J R Z) := by
  have e454 : mhL I j (1 + j) 0 454 = I 454 := by
    unfold mhL; rw [lyS_ne (by omega), lyL_ne (by omega), st_ne (by decide), st_ne (by decide)]
  have e420 : mhL I j (1 + j) 0 420 = upd (I 420) 0 (nI 0) := by
    unfold mhL; rw [lyS_ne (by omega), lyL_ne (by omega), st_ne (by decide), st_eq]
  have hcp := fun P => m_copies (L := L) (xs := xs) (d := d) (P := P) (I := pm (mhL I j (1 + j) 0) V) (J := J) (R := R) (Z := Z) (fa := 454) (ta := 451) (nf := 1164) (nt := 291) (a := 291 * j) (b := 0) (by decide) rfl (by decide) rfl (by decide) (by omega) (by decide) (by decide) (by decide)
  rw [pm_eq, pm_ne (by decide), e454, cpy_from hV, st_pm] at hcp
  have h1 := fun P => m_laysLines (L := L) (xs := xs) (d := d) (P := P) (I := st (st I 420 (upd (I 420) 0 (nI 0))) 456 (upd (I 456) j (nI 1))) (V := V) (J := J) (R := R) (Z := Z) (a := 1 + j) (b := 0) (by omega) (by omega) (by omega)
  have h2 := fun P => m_laysSeen (L := L) (xs := xs) (d := d) (P := P) (I := lyL (st (st I 420 (upd (I 420) 0 (nI 0))) 456 (upd (I 456) j (nI 1))) (1 + j) 0 40) (V := V) (J := J) (R := R) (Z := Z) (a := 1 + j) (b := 0) (by omega) (by omega) (by omega)
  have e291 : nI 291 * nI j = nI (291 * j) := pk_mul _ _
  have eL : lyS (lyL (st (st I 420 (upd (I 420) 0 (nI 0))) 456 (upd (I 456) j (nI 1))) (1 + j) 0 40) (1 + j) 0 8 = mhL I j (1 + j) 0 := by unfold mhL; exact Eq.refl _
  rw [eL] at h2
  have eI : st (mhL I j (1 + j) 0) 420 (upd (upd (I 420) 0 (nI 0)) 47 (nI 0)) = mbI I j := by unfold mbI; exact Eq.refl _
  simp (discharger := omega) only [↓w310_0, ↓w310_1, ↓w310_2, ↓w310_5, ↓w310_6, ↓w310_7, ↓w310_8, ↓w310_11, ↓w310_14, ↓w310_15, ↓w310_18, ↓w310_19, ↓w310_22, ↓w310_23, ↓w310_24, ↓w310_27, ↓w310_28, ↓w310_29, ↓w310_30, ↓w310_33, ↓w310_34, ↓w310_35, ↓w310_36, ↓w310_37, ↓w310_40, ↓w310_41, ↓w310_42, ↓w310_43, ↓w310_46, ↓w310_47, ↓w310_48, ↓w310_49, ↓w310_52, ↓w310_53, ↓w310_56, ↓w310_57, ↓w310_58, ↓w310_59, ↓w310_61, ↓w310_62, ↓w310_63, ↓w310_65, ↓w310_68, ↓w310_69, ↓w310_70, ↓w310_72, ↓w310_75, ↓w310_76, ↓w310_79, ↓w310_80, ↓w310_83, ↓w310_86, ↓w310_87, ↓w310_88, ↓w310_89, ↓w310_92, ↓w310_93, ↓w310_96, ↓w310_97, ↓w310_98, ↓w310_101, ↓w310_104, ↓w310_105, ↓w310_108, ↓w310_109, ↓w310_110, ↓w310_113, ↓w310_116, ↓w310_117, ↓w310_118, ↓w310_121, ↓w310_122, ↓m_within, in4 hj, bI_t, ↓h1, ↓h2, ↓hcp, e291, na31, hb, e420, eI, st_ne, ↓kc_i, ↓kc_l, ↓kc_r, ↓kc_n, rc420, g420_0, p420_0, g420_1, p420_1, g420_2, g420_3, p420_3, g420_4, p420_4, g420_5, p420_5, g420_6, p420_6, g420_7, p420_7, g420_8, p420_8, g420_9, p420_9, g420_10, g420_11, g420_12, g420_13, g420_14, g420_15, g420_16, g420_17, g420_18, g420_19, p420_19, g420_20, g420_21, g420_22, g420_23, g420_24, g420_25, g420_26, g420_27, g420_28, g420_29, g420_30, g420_31, g420_32, p420_32, g420_33, g420_34, g420_35, g420_36, g420_37, g420_38, g420_39, g420_40, g420_41, g420_42, g420_43, g420_44, g420_45, g420_46, g420_47, p420_47, g420_48, g420_49, p420_49, gi451, si451, gi456, si456, pm_eq, pm_ne, st_pm, st_pmne, rd1, rd2, rd3, rd4, rd5, rd6, rd2s, rd3s, rd4s, rd5s, rd7, rd8, rd9, rd10, rd11, rd0, rdc, wr1, wr2, wr3, wr4, wr5, wr6, wr2s, wr3s, wr4s, wr5s, wr7, wr8, wr9, wr10, wr11, wr0, wrc, st_ne, st_eq, st_st, mul8, mul8', mul4, mul4', nI_add, inT, nclN, ltT, ltF, leT, leF, eqT, eqF, nzF, m1F, m1T, shr, shg, bI0, bI1, bo_bI, bo_1, bo_0, eq10, eq00, frT1, frT2, frT3, fit0, fit1, fit2, fit3, true_and, and_true, ↓reduceIte, Nat.reduceAdd, Nat.reduceMul, and_self, not_false_eq_true, not_true_eq_false, Nat.zero_add, Nat.add_zero]
theorem m_mark0 {bv : Bool} (h : inr x (nI 0) (nI 3) = false ∨ ∃ j, j < 4 ∧ x = nI j ∧ bv = true ∧ I 456 j = nI 0) : Wp L xs (d+1) 310 0 [some (.ref (420)), some (.int (x)), some (.int (bI bv)), none, none] [] (mk (pm I V) J R Z) P = P (some (.int (nI 0))) (mk (pm (st I 420 (upd (I 420) 0 (nI 0))) V) J R Z) := by
  rcases h with h | ⟨j, hj, rfl, rfl, hb⟩
  · simp (discharger := omega) only [↓w310_0, ↓w310_1, ↓w310_2, ↓w310_5, ↓w310_6, ↓w310_7, ↓w310_8, ↓w310_11, ↓w310_14, ↓w310_15, ↓w310_18, ↓w310_19, ↓w310_22, ↓w310_23, ↓w310_24, ↓w310_27, ↓w310_28, ↓w310_29, ↓w310_30, ↓w310_33, ↓w310_34, ↓w310_35, ↓w310_36, ↓w310_37, ↓w310_40, ↓w310_41, ↓w310_42, ↓w310_43, ↓w310_46, ↓w310_47, ↓w310_48, ↓w310_49, ↓w310_52, ↓w310_53, ↓w310_56, ↓w310_57, ↓w310_58, ↓w310_59, ↓w310_61, ↓w310_62, ↓w310_63, ↓w310_65, ↓w310_68, ↓w310_69, ↓w310_70, ↓w310_72, ↓w310_75, ↓w310_76, ↓w310_79, ↓w310_80, ↓w310_83, ↓w310_86, ↓w310_87, ↓w310_88, ↓w310_89, ↓w310_92, ↓w310_93, ↓w310_96, ↓w310_97, ↓w310_98, ↓w310_101, ↓w310_104, ↓w310_105, ↓w310_108, ↓w310_109, ↓w310_110, ↓w310_113, ↓w310_116, ↓w310_117, ↓w310_118, ↓w310_121, ↓w310_122, ↓m_within, h, bI_f, ↓kc_i, ↓kc_l, ↓kc_r, ↓kc_n, rc420, g420_0, p420_0, g420_1, p420_1, g420_2, g420_3, p420_3, g420_4, p420_4, g420_5, p420_5, g420_6, p420_6, g420_7, p420_7, g420_8, p420_8, g420_9, p420_9, g420_10, g420_11, g420_12, g420_13, g420_14, g420_15, g420_16, g420_17, g420_18, g420_19, p420_19, g420_20, g420_21, g420_22, g420_23, g420_24, g420_25, g420_26, g420_27, g420_28, g420_29, g420_30, g420_31, g420_32, p420_32, g420_33, g420_34, g420_35, g420_36, g420_37, g420_38, g420_39, g420_40, g420_41, g420_42, g420_43, g420_44, g420_45, g420_46, g420_47, p420_47, g420_48, g420_49, p420_49, gi451, si451, pm_eq, pm_ne, st_pm, st_pmne, rd1, rd2, rd3, rd4, rd5, rd6, rd2s, rd3s, rd4s, rd5s, rd7, rd8, rd9, rd10, rd11, rd0, rdc, wr1, wr2, wr3, wr4, wr5, wr6, wr2s, wr3s, wr4s, wr5s, wr7, wr8, wr9, wr10, wr11, wr0, wrc, st_ne, st_eq, st_st, mul8, mul8', mul4, mul4', nI_add, inT, nclN, ltT, ltF, leT, leF, eqT, eqF, nzF, m1F, m1T, shr, shg, bI0, bI1, bo_bI, bo_1, bo_0, eq10, eq00, frT1, frT2, frT3, fit0, fit1, fit2, fit3, true_and, and_true, ↓reduceIte, Nat.reduceAdd, Nat.reduceMul, and_self, not_false_eq_true, not_true_eq_false, Nat.zero_add, Nat.add_zero]
  · rw [bI_t]
    simp (discharger := omega) only [↓w310_0, ↓w310_1, ↓w310_2, ↓w310_5, ↓w310_6, ↓w310_7, ↓w310_8, ↓w310_11, ↓w310_14, ↓w310_15, ↓w310_18, ↓w310_19, ↓w310_22, ↓w310_23, ↓w310_24, ↓w310_27, ↓w310_28, ↓w310_29, ↓w310_30, ↓w310_33, ↓w310_34, ↓w310_35, ↓w310_36, ↓w310_37, ↓w310_40, ↓w310_41, ↓w310_42, ↓w310_43, ↓w310_46, ↓w310_47, ↓w310_48, ↓w310_49, ↓w310_52, ↓w310_53, ↓w310_56, ↓w310_57, ↓w310_58, ↓w310_59, ↓w310_61, ↓w310_62, ↓w310_63, ↓w310_65, ↓w310_68, ↓w310_69, ↓w310_70, ↓w310_72, ↓w310_75, ↓w310_76, ↓w310_79, ↓w310_80, ↓w310_83, ↓w310_86, ↓w310_87, ↓w310_88, ↓w310_89, ↓w310_92, ↓w310_93, ↓w310_96, ↓w310_97, ↓w310_98, ↓w310_101, ↓w310_104, ↓w310_105, ↓w310_108, ↓w310_109, ↓w310_110, ↓w310_113, ↓w310_116, ↓w310_117, ↓w310_118, ↓w310_121, ↓w310_122, ↓m_within, in4 hj, bI_t, hb, st_ne, ↓kc_i, ↓kc_l, ↓kc_r, ↓kc_n, rc420, g420_0, p420_0, g420_1, p420_1, g420_2, g420_3, p420_3, g420_4, p420_4, g420_5, p420_5, g420_6, p420_6, g420_7, p420_7, g420_8, p420_8, g420_9, p420_9, g420_10, g420_11, g420_12, g420_13, g420_14, g420_15, g420_16, g420_17, g420_18, g420_19, p420_19, g420_20, g420_21, g420_22, g420_23, g420_24, g420_25, g420_26, g420_27, g420_28, g420_29, g420_30, g420_31, g420_32, p420_32, g420_33, g420_34, g420_35, g420_36, g420_37, g420_38, g420_39, g420_40, g420_41, g420_42, g420_43, g420_44, g420_45, g420_46, g420_47, p420_47, g420_48, g420_49, p420_49, gi451, si451, gi456, si456, pm_eq, pm_ne, st_pm, st_pmne, rd1, rd2, rd3, rd4, rd5, rd6, rd2s, rd3s, rd4s, rd5s, rd7, rd8, rd9, rd10, rd11, rd0, rdc, wr1, wr2, wr3, wr4, wr5, wr6, wr2s, wr3s, wr4s, wr5s, wr7, wr8, wr9, wr10, wr11, wr0, wrc, st_ne, st_eq, st_st, mul8, mul8', mul4, mul4', nI_add, inT, nclN, ltT, ltF, leT, leF, eqT, eqF, nzF, m1F, m1T, shr, shg, bI0, bI1, bo_bI, bo_1, bo_0, eq10, eq00, frT1, frT2, frT3, fit0, fit1, fit2, fit3, true_and, and_true, ↓reduceIte, Nat.reduceAdd, Nat.reduceMul, and_self, not_false_eq_true, not_true_eq_false, Nat.zero_add, Nat.add_zero]
end F7
