section K8
variable {L : Nat} {xs : Nat → Int32} {d : Nat} {P : Option Value → Hp → Prop} {I : Mi} {J : Mj} {R : Mr} {Z : Mz} {s r c k N M : Nat} {x y : Int32} {V : Vw} {kd va : Nat → Int32} {ky : Nat → Nat}
theorem effV_ne {a b : Int32} {j : Nat} (h5 : j ≠ 5) (h8 : j ≠ 8) : effV a b k r c V j = V j := by
  unfold effV
  split
  · exact st_ne h8
  · split
    · exact st_ne h8
    · split
      · exact st_ne h5
      · exact st_ne h8
theorem r1V_ne {a b : Int32} {n j : Nat} (h5 : j ≠ 5) (h8 : j ≠ 8) (h1 : j ≠ 1) (h6 : j ≠ 6) (h7 : j ≠ 7) : r1V n a b k r c V j = V j := by
  unfold r1V
  split
  · rfl
  · dsimp only
    split
    · rw [st_ne h7, st_ne h6, st_ne h1]
    · rw [effV_ne h5 h8, st_ne h7, st_ne h6, st_ne h1]
theorem r1V_7 {a b : Int32} {n : Nat} : r1V n a b k r c V 7 = if 8 ≤ n then V 7 else upd (V 7) r (nI (n + 1)) := by
  unfold r1V
  split
  · rfl
  · dsimp only
    split
    · rw [st_eq]
    · rw [effV_ne (by decide) (by decide), st_eq]
def okn (V : Vw) (r : Nat) : Prop := ∃ n, n ≤ 8 ∧ V 7 r = nI n
theorem okn_r1 {a b : Int32} {n : Nat} (hn : V 7 r = nI n) (h8 : n ≤ 8) : okn (r1V n a b k r c V) r := by
  unfold okn; rw [r1V_7]
  split
  · exact ⟨n, h8, hn⟩
  · exact ⟨n + 1, by omega, upd_eq⟩
def rpV (kd va : Nat → Int32) (ky : Nat → Nat) (M r : Nat) : Nat → Int32 → Vw → Vw
  | 0, _, V => V
  | k + 1, left, V => if left = nI 0 then V else match lst (tb left) (V 3) r M with
    | none => V
    | some c => rpV kd va ky M r k (left &&& (sg c ^^^ (-1))) (r1V (V 7 r).toNatClampNeg (kd c) (va c) (ky c) r c V)
theorem rpV_s {left : Int32} : rpV kd va ky M r (k + 1) left V = if left = nI 0 then V else match lst (tb left) (V 3) r M with
    | none => V
    | some c => rpV kd va ky M r k (left &&& (sg c ^^^ (-1))) (r1V (V 7 r).toNatClampNeg (kd c) (va c) (ky c) r c V) := rfl
theorem okn_rp : ∀ {k : Nat} {left : Int32} {V : Vw}, okn V r → okn (rpV kd va ky M r k left V) r
  | 0, _, _, h => h
  | k + 1, left, V, h => by
    rw [rpV_s]
    split
    · exact h
    · split
      · exact h
      · obtain ⟨n, h8, hn⟩ := h
        refine okn_rp ?_
        rw [hn, nI_clamp (by omega)]
        exact okn_r1 hn h8
theorem k_runPart0 {left q : Int32} (hs : isS s) (hr : r < 5) (hM : I 76 2 = nI M) (h8 : M ≤ 8) (t : Int32) : Wp L xs (d+2) 80 24 [some (.ref (126)), some (.ref (s)), some (.int (nI r)), some (.int (q)), some (.int (left)), some (.int (t)), some (.int (-1)), some (.int (nI 0))] [] (mk (putS I s V) J R Z) P = Wp L xs (d+2) 80 63 [some (.ref (126)), some (.ref (s)), some (.int (nI r)), some (.int (q)), some (.int (left)), some (.int (t)), some (.int (oN (lst (tb left) (V 3) r M))), some (.int (nI M))] [] (mk (putS I s V) J R Z) P := by
  have hs1 := hs.1
  have key : ∀ n, n ≤ M → Wp L xs (d+2) 80 24 [some (.ref (126)), some (.ref (s)), some (.int (nI r)), some (.int (q)), some (.int (left)), some (.int (t)), some (.int (-1)), some (.int (nI 0))] [] (mk (putS I s V) J R Z) P = Wp L xs (d+2) 80 24 [some (.ref (126)), some (.ref (s)), some (.int (nI r)), some (.int (q)), some (.int (left)), some (.int (t)), some (.int (oN (lst (tb left) (V 3) r n))), some (.int (nI n))] [] (mk (putS I s V) J R Z) P := by
    intro n
    induction n with
    | zero => intro _; rfl
    | succ n ih =>
      intro hn
      rw [ih (by omega)]
      refine w80_24.trans ?_
      have hb : ∀ q, lst (tb left) (V 3) r n = some q → q < 8 := fun q hq => by have := lst_lt hq; omega
      have hles : ∀ P, Wp L xs (d+1) 81 0 [some (.ref (s)), some (.int (nI r)), some (.int (oN (lst (tb left) (V 3) r n))), some (.int (nI n)), none] [] (mk (putS I s V) J R Z) P = P (some (.int (oN (les (V 3) r (lst (tb left) (V 3) r n) n)))) (mk (putS I s V) J R Z) := fun P => by
        rw [k_lesser hs (show n < 8 by omega) hr hb, ps_j (by decide)]
      simp (discharger := omega) only [↓w80_0, ↓w80_1, ↓w80_3, ↓w80_4, ↓w80_8, ↓w80_10, ↓w80_13, ↓w80_15, ↓w80_18, ↓w80_19, ↓w80_21, ↓w80_22, ↓w80_26, ↓w80_27, ↓w80_30, ↓w80_33, ↓w80_36, ↓w80_38, ↓w80_40, ↓w80_41, ↓w80_42, ↓w80_43, ↓w80_46, ↓w80_47, ↓w80_48, ↓w80_50, ↓w80_52, ↓w80_55, ↓w80_57, ↓w80_60, ↓w80_65, ↓w80_66, ↓w80_69, ↓w80_70, ↓w80_72, ↓w80_73, ↓w80_75, ↓w80_76, ↓w80_77, ↓w80_78, ↓w80_79, ↓w80_81, ↓w80_82, ↓w80_83, ↓w80_84, ↓w80_86, ↓w80_89, ↓w80_92, ↓w80_95, ↓hles, ↓kc_i, ↓kc_l, ↓kc_r, ↓kc_n, rc126, g126_0, g126_1, g126_2, p126_2, gi127, si127, rc76, g76_0, p76_0, g76_1, p76_1, g76_2, p76_2, g76_3, g76_4, g76_5, g76_6, g76_7, g76_8, ps_0, ps_j, ps_ne, st_ps, st_ps0, st_psne, st_ne, st_eq, st_st, upd_eq, upd_upd, hM, mul8, mul8', mul4, mul4', nI_add, inT, nclN, ltT, ltF, leT, leF, eqT, eqF, nzF, m1F, m1T, shr, shg, bI0, bI1, bo_bI, bo_1, bo_0, eq10, eq00, frT1, frT2, frT3, fit0, fit1, fit2, fit3, true_and, and_true, ↓reduceIte, Nat.reduceAdd, Nat.reduceMul, and_self, not_false_eq_true, not_true_eq_false, Nat.zero_add, Nat.add_zero]
      show _ = Wp L xs (d+2) 80 24 [some (.ref (126)), some (.ref (s)), some (.int (nI r)), some (.int (q)), some (.int (left)), some (.int (t)), some (.int (oN (if tb left n = true then les (V 3) r (lst (tb left) (V 3) r n) n else lst (tb left) (V 3) r n))), some (.int (nI (n + 1)))] [] (mk (putS I s V) J R Z) P
      generalize lst (tb left) (V 3) r n = w
      cases tb left n <;> simp
  rw [key M (Nat.le_refl M)]
  refine w80_24.trans ?_
  simp (discharger := omega) only [↓w80_0, ↓w80_1, ↓w80_3, ↓w80_4, ↓w80_8, ↓w80_10, ↓w80_13, ↓w80_15, ↓w80_18, ↓w80_19, ↓w80_21, ↓w80_22, ↓w80_26, ↓w80_27, ↓w80_30, ↓w80_33, ↓w80_36, ↓w80_38, ↓w80_40, ↓w80_41, ↓w80_42, ↓w80_43, ↓w80_46, ↓w80_47, ↓w80_48, ↓w80_50, ↓w80_52, ↓w80_55, ↓w80_57, ↓w80_60, ↓w80_65, ↓w80_66, ↓w80_69, ↓w80_70, ↓w80_72, ↓w80_73, ↓w80_75, ↓w80_76, ↓w80_77, ↓w80_78, ↓w80_79, ↓w80_81, ↓w80_82, ↓w80_83, ↓w80_84, ↓w80_86, ↓w80_89, ↓w80_92, ↓w80_95, rc126, g126_0, g126_1, g126_2, p126_2, rc76, g76_0, p76_0, g76_1, p76_1, g76_2, p76_2, g76_3, g76_4, g76_5, g76_6, g76_7, g76_8, ps_0, ps_j, ps_ne, st_ps, st_ps0, st_psne, st_ne, st_eq, st_st, upd_eq, upd_upd, hM, mul8, mul8', mul4, mul4', nI_add, inT, nclN, ltT, ltF, leT, leF, eqT, eqF, nzF, m1F, m1T, shr, shg, bI0, bI1, bo_bI, bo_1, bo_0, eq10, eq00, frT1, frT2, frT3, fit0, fit1, fit2, fit3, true_and, and_true, ↓reduceIte, Nat.reduceAdd, Nat.reduceMul, and_self, not_false_eq_true, not_true_eq_false, Nat.zero_add, Nat.add_zero]
theorem k_runPart1 {q : Int32} (hs : isS s) (hr : r < 5) (hM : I 76 2 = nI M) (h8 : M ≤ 8) (hk : ∀ c, c < M → I 78 c = nI (ky c) ∧ ky c < 4) : ∀ (k i : Nat) (left : Int32) (V : Vw) (t u : Option Value), i + k = 8 → okn V r → Wp L xs (d+3) 80 6 [some (.ref (126)), some (.ref (s)), some (.int (nI r)), some (.int (q)), some (.int (left)), some (.int (nI i)), t, u] [] (mk (putS I s V) J R Z) P = P none (mk (putS I s (rpV (I 77) (I 79) ky M r k left V)) J R Z) := by
  have hs1 := hs.1
  intro k
  induction k with
  | zero =>
    intro i left V t u hi hV
    refine w80_6.trans ?_
    simp (discharger := omega) only [↓w80_0, ↓w80_1, ↓w80_3, ↓w80_4, ↓w80_8, ↓w80_10, ↓w80_13, ↓w80_15, ↓w80_18, ↓w80_19, ↓w80_21, ↓w80_22, ↓w80_26, ↓w80_27, ↓w80_30, ↓w80_33, ↓w80_36, ↓w80_38, ↓w80_40, ↓w80_41, ↓w80_42, ↓w80_43, ↓w80_46, ↓w80_47, ↓w80_48, ↓w80_50, ↓w80_52, ↓w80_55, ↓w80_57, ↓w80_60, ↓w80_65, ↓w80_66, ↓w80_69, ↓w80_70, ↓w80_72, ↓w80_73, ↓w80_75, ↓w80_76, ↓w80_77, ↓w80_78, ↓w80_79, ↓w80_81, ↓w80_82, ↓w80_83, ↓w80_84, ↓w80_86, ↓w80_89, ↓w80_92, ↓w80_95, mul8, mul8', mul4, mul4', nI_add, inT, nclN, ltT, ltF, leT, leF, eqT, eqF, nzF, m1F, m1T, shr, shg, bI0, bI1, bo_bI, bo_1, bo_0, eq10, eq00, frT1, frT2, frT3, fit0, fit1, fit2, fit3, true_and, and_true, ↓reduceIte, Nat.reduceAdd, Nat.reduceMul, and_self, not_false_eq_true, not_true_eq_false, Nat.zero_add, Nat.add_zero]
    rfl
  | succ k ih =>
    intro i left V t u hi hV
    refine w80_6.trans ?_
    rw [rpV_s]
    by_cases h0 : left = nI 0
    · simp (discharger := omega) only [↓w80_0, ↓w80_1, ↓w80_3, ↓w80_4, ↓w80_8, ↓w80_10, ↓w80_13, ↓w80_15, ↓w80_18, ↓w80_19, ↓w80_21, ↓w80_22, ↓w80_26, ↓w80_27, ↓w80_30, ↓w80_33, ↓w80_36, ↓w80_38, ↓w80_40, ↓w80_41, ↓w80_42, ↓w80_43, ↓w80_46, ↓w80_47, ↓w80_48, ↓w80_50, ↓w80_52, ↓w80_55, ↓w80_57, ↓w80_60, ↓w80_65, ↓w80_66, ↓w80_69, ↓w80_70, ↓w80_72, ↓w80_73, ↓w80_75, ↓w80_76, ↓w80_77, ↓w80_78, ↓w80_79, ↓w80_81, ↓w80_82, ↓w80_83, ↓w80_84, ↓w80_86, ↓w80_89, ↓w80_92, ↓w80_95, mul8, mul8', mul4, mul4', nI_add, inT, nclN, ltT, ltF, leT, leF, eqT, eqF, nzF, m1F, m1T, shr, shg, bI0, bI1, bo_bI, bo_1, bo_0, eq10, eq00, frT1, frT2, frT3, fit0, fit1, fit2, fit3, true_and, and_true, ↓reduceIte, Nat.reduceAdd, Nat.reduceMul, and_self, not_false_eq_true, not_true_eq_false, Nat.zero_add, Nat.add_zero, h0]
    · simp (discharger := omega) only [↓w80_0, ↓w80_1, ↓w80_3, ↓w80_4, ↓w80_8, ↓w80_10, ↓w80_13, ↓w80_15, ↓w80_18, ↓w80_19, ↓w80_21, ↓w80_22, ↓w80_26, ↓w80_27, ↓w80_30, ↓w80_33, ↓w80_36, ↓w80_38, ↓w80_40, ↓w80_41, ↓w80_42, ↓w80_43, ↓w80_46, ↓w80_47, ↓w80_48, ↓w80_50, ↓w80_52, ↓w80_55, ↓w80_57, ↓w80_60, ↓w80_65, ↓w80_66, ↓w80_69, ↓w80_70, ↓w80_72, ↓w80_73, ↓w80_75, ↓w80_76, ↓w80_77, ↓w80_78, ↓w80_79, ↓w80_81, ↓w80_82, ↓w80_83, ↓w80_84, ↓w80_86, ↓w80_89, ↓w80_92, ↓w80_95, mul8, mul8', mul4, mul4', nI_add, inT, nclN, ltT, ltF, leT, leF, eqT, eqF, nzF, m1F, m1T, shr, shg, bI0, bI1, bo_bI, bo_1, bo_0, eq10, eq00, frT1, frT2, frT3, fit0, fit1, fit2, fit3, true_and, and_true, ↓reduceIte, Nat.reduceAdd, Nat.reduceMul, and_self, not_false_eq_true, not_true_eq_false, Nat.zero_add, Nat.add_zero, h0]
      rw [k_runPart0 (d := d + 1) hs hr hM h8]
      obtain ⟨n, hn8, hn⟩ := hV
      cases hw : lst (tb left) (V 3) r M with
      | none => simp (discharger := omega) only [↓w80_0, ↓w80_1, ↓w80_3, ↓w80_4, ↓w80_8, ↓w80_10, ↓w80_13, ↓w80_15, ↓w80_18, ↓w80_19, ↓w80_21, ↓w80_22, ↓w80_26, ↓w80_27, ↓w80_30, ↓w80_33, ↓w80_36, ↓w80_38, ↓w80_40, ↓w80_41, ↓w80_42, ↓w80_43, ↓w80_46, ↓w80_47, ↓w80_48, ↓w80_50, ↓w80_52, ↓w80_55, ↓w80_57, ↓w80_60, ↓w80_63, ↓w80_65, ↓w80_66, ↓w80_69, ↓w80_70, ↓w80_72, ↓w80_73, ↓w80_75, ↓w80_76, ↓w80_77, ↓w80_78, ↓w80_79, ↓w80_81, ↓w80_82, ↓w80_83, ↓w80_84, ↓w80_86, ↓w80_89, ↓w80_92, ↓w80_95, mul8, mul8', mul4, mul4', nI_add, inT, nclN, ltT, ltF, leT, leF, eqT, eqF, nzF, m1F, m1T, shr, shg, bI0, bI1, bo_bI, bo_1, bo_0, eq10, eq00, frT1, frT2, frT3, fit0, fit1, fit2, fit3, true_and, and_true, ↓reduceIte, Nat.reduceAdd, Nat.reduceMul, and_self, not_false_eq_true, not_true_eq_false, Nat.zero_add, Nat.add_zero, oN]
      | some c =>
        have hcM := lst_lt hw
        have hone := fun P => k_runOne (L := L) (xs := xs) (d := d) (P := P) (J := J) (R := R) (Z := Z) hs (show c < 8 by omega) hr (hk c hcM).1 (hk c hcM).2 hn hn8
        simp (discharger := omega) only [↓w80_0, ↓w80_1, ↓w80_3, ↓w80_4, ↓w80_8, ↓w80_10, ↓w80_13, ↓w80_15, ↓w80_18, ↓w80_19, ↓w80_21, ↓w80_22, ↓w80_26, ↓w80_27, ↓w80_30, ↓w80_33, ↓w80_36, ↓w80_38, ↓w80_40, ↓w80_41, ↓w80_42, ↓w80_43, ↓w80_46, ↓w80_47, ↓w80_48, ↓w80_50, ↓w80_52, ↓w80_55, ↓w80_57, ↓w80_60, ↓w80_63, ↓w80_65, ↓w80_66, ↓w80_69, ↓w80_70, ↓w80_72, ↓w80_73, ↓w80_75, ↓w80_76, ↓w80_77, ↓w80_78, ↓w80_79, ↓w80_81, ↓w80_82, ↓w80_83, ↓w80_84, ↓w80_86, ↓w80_89, ↓w80_92, ↓w80_95, ↓hone, ↓kc_i, ↓kc_l, ↓kc_r, ↓kc_n, rc126, g126_0, g126_1, g126_2, p126_2, mul8, mul8', mul4, mul4', nI_add, inT, nclN, ltT, ltF, leT, leF, eqT, eqF, nzF, m1F, m1T, shr, shg, bI0, bI1, bo_bI, bo_1, bo_0, eq10, eq00, frT1, frT2, frT3, fit0, fit1, fit2, fit3, true_and, and_true, ↓reduceIte, Nat.reduceAdd, Nat.reduceMul, and_self, not_false_eq_true, not_true_eq_false, Nat.zero_add, Nat.add_zero, oN]
        rw [ih (i + 1) _ _ _ _ (by omega) (okn_r1 hn hn8), hn, nI_clamp (by omega)]
theorem k_runPart {q : Int32} (hs : isS s) (hr : r < 5) (hM : I 76 2 = nI M) (h8 : M ≤ 8) (hk : ∀ c, c < M → I 78 c = nI (ky c) ∧ ky c < 4) (hV : okn V r) : Wp L xs (d+3) 80 0 [some (.ref (126)), some (.ref (s)), some (.int (nI r)), some (.int (q)), none, none, none, none] [] (mk (putS I s V) J R Z) P = P none (mk (putS I s (rpV (I 77) (I 79) ky M r 8 q V)) J R Z) := by
  simp (discharger := omega) only [↓w80_0, ↓w80_1, ↓w80_3, ↓w80_4, ↓w80_8, ↓w80_10, ↓w80_13, ↓w80_15, ↓w80_18, ↓w80_19, ↓w80_21, ↓w80_22, ↓w80_26, ↓w80_27, ↓w80_30, ↓w80_33, ↓w80_36, ↓w80_38, ↓w80_40, ↓w80_41, ↓w80_42, ↓w80_43, ↓w80_46, ↓w80_47, ↓w80_48, ↓w80_50, ↓w80_52, ↓w80_55, ↓w80_57, ↓w80_60, ↓w80_63, ↓w80_65, ↓w80_66, ↓w80_69, ↓w80_70, ↓w80_72, ↓w80_73, ↓w80_75, ↓w80_76, ↓w80_77, ↓w80_78, ↓w80_79, ↓w80_81, ↓w80_82, ↓w80_83, ↓w80_84, ↓w80_86, ↓w80_89, ↓w80_92, ↓w80_95, mul8, mul8', mul4, mul4', nI_add, inT, nclN, ltT, ltF, leT, leF, eqT, eqF, nzF, m1F, m1T, shr, shg, bI0, bI1, bo_bI, bo_1, bo_0, eq10, eq00, frT1, frT2, frT3, fit0, fit1, fit2, fit3, true_and, and_true, ↓reduceIte, Nat.reduceAdd, Nat.reduceMul, and_self, not_false_eq_true, not_true_eq_false, Nat.zero_add, Nat.add_zero]
  exact k_runPart1 hs hr hM h8 hk 8 0 q V none none (by omega) hV
abbrev Tq : Type := Vw × Int32 × (Nat → Int32)
def rps (kd va : Nat → Int32) (ky : Nat → Nat) (M r : Nat) : Nat → Tq → Tq
  | 0, q => q
  | k + 1, q => match lst (free (cAt (q.1 1) r (nI 3) (nI 3)) (lns (q.1 1) (q.1 4) r q.2.2)) (q.1 3) r M with
    | none => (q.1, cAt (q.1 1) r (nI 3) (nI 3), lns (q.1 1) (q.1 4) r q.2.2)
    | some c => rps kd va ky M r k (rpV kd va ky M r 8 (prt (lns (q.1 1) (q.1 4) r q.2.2) c) q.1, cAt (q.1 1) r (nI 3) (nI 3), lns (q.1 1) (q.1 4) r q.2.2)
theorem rps_s {q : Tq} : rps kd va ky M r (k + 1) q = match lst (free (cAt (q.1 1) r (nI 3) (nI 3)) (lns (q.1 1) (q.1 4) r q.2.2)) (q.1 3) r M with
    | none => (q.1, cAt (q.1 1) r (nI 3) (nI 3), lns (q.1 1) (q.1 4) r q.2.2)
    | some c => rps kd va ky M r k (rpV kd va ky M r 8 (prt (lns (q.1 1) (q.1 4) r q.2.2) c) q.1, cAt (q.1 1) r (nI 3) (nI 3), lns (q.1 1) (q.1 4) r q.2.2) := rfl
theorem lkI_lkI {a b : Int32} {f g : Nat → Int32} : lkI (lkI I a f) b g = lkI I b g := by
  unfold lkI
  rw [st_ne (by decide), st_eq, upd_upd, st_cm (show (127 : Nat) ≠ 126 by decide), st_st, st_st]
theorem lkI_id : lkI I (I 126 2) (I 127) = I := by unfold lkI; rw [upd_id, st_id, st_id]
theorem lkI_ne {a : Int32} {f : Nat → Int32} {b : Nat} (h : b ≠ 126) (h' : b ≠ 127) : lkI I a f b = I b := by unfold lkI; rw [st_ne h', st_ne h]
theorem lkI_6 {a : Int32} {f : Nat → Int32} : lkI I a f 126 2 = a := by unfold lkI; rw [st_ne (by decide), st_eq, upd_eq]
theorem lkI_7 {a : Int32} {f : Nat → Int32} : lkI I a f 127 = f := by unfold lkI; rw [st_eq]
theorem lkI_ps {a : Int32} {f : Nat → Int32} (h : s < 115 ∨ 130 < s) : lkI (putS I s V) a f = putS (lkI I a f) s V := by
  unfold lkI; rw [ps_ne (by omega), st_psne (by omega), st_psne (by omega)]
theorem k_runParts1 {o : Int32} (hs : isS s) (hr : r < 5) (hM : I 76 2 = nI M) (h8 : M ≤ 8) (hk : ∀ c, c < M → I 78 c = nI (ky c) ∧ ky c < 4) : ∀ (k i : Nat) (q : Tq) (t : Option Value), i + k = 8 → okn q.1 r → Wp L xs (d+4) 78 10 [some (.ref (126)), some (.ref (s)), some (.int (nI r)), some (.int (o)), some (.int (nI i)), t] [] (mk (putS (lkI I q.2.1 q.2.2) s q.1) J R Z) P = (fun q' : Tq => P (some (.int (q'.1 7 r - o))) (mk (putS (lkI I q'.2.1 q'.2.2) s q'.1) J R Z)) (rps (I 77) (I 79) ky M r k q) := by
  have hs1 := hs.1
  intro k
  induction k with
  | zero =>
    intro i q t hi hq
    refine w78_10.trans ?_
    simp (discharger := omega) only [↓w78_0, ↓w78_1, ↓w78_4, ↓w78_5, ↓w78_6, ↓w78_7, ↓w78_8, ↓w78_12, ↓w78_14, ↓w78_17, ↓w78_18, ↓w78_19, ↓w78_20, ↓w78_23, ↓w78_24, ↓w78_25, ↓w78_26, ↓w78_29, ↓w78_31, ↓w78_33, ↓w78_34, ↓w78_37, ↓w78_40, ↓w78_41, ↓w78_42, ↓w78_43, ↓w78_44, ↓w78_46, ↓w78_49, ↓w78_52, ↓w78_55, ↓w78_58, ↓w78_59, ↓w78_62, ↓w78_63, ↓w78_64, ↓w78_65, ↓w78_66, gS0 hs, gS1 hs, gS2 hs, gS3 hs, gS4 hs, gS5 hs, gS6 hs, gS7 hs, gS8 hs, gS9 hs, gS10 hs, gS11 hs, gS12 hs, giS1 hs, giS2 hs, giS3 hs, giS4 hs, giS5 hs, giS6 hs, giS7 hs, giS8 hs, giS9 hs, giS10 hs, giS11 hs, siS1 hs, siS2 hs, siS3 hs, siS4 hs, siS5 hs, siS6 hs, siS7 hs, siS8 hs, siS9 hs, siS10 hs, siS11 hs, pS0 hs, pS1 hs, rcS hs, ps_0, ps_j, ps_ne, st_ps, st_ps0, st_psne, st_ne, st_eq, st_st, upd_eq, upd_upd, mul8, mul8', mul4, mul4', nI_add, inT, nclN, ltT, ltF, leT, leF, eqT, eqF, nzF, m1F, m1T, shr, shg, bI0, bI1, bo_bI, bo_1, bo_0, eq10, eq00, frT1, frT2, frT3, fit0, fit1, fit2, fit3, true_and, and_true, ↓reduceIte, Nat.reduceAdd, Nat.reduceMul, and_self, not_false_eq_true, not_true_eq_false, Nat.zero_add, Nat.add_zero]
    rfl
  | succ k ih =>
    intro i q t hi hq
    refine w78_10.trans ?_
    rw [rps_s]
    have hla := fun P => (k_lookAt (L := L) (xs := xs) (d := d + 1) (P := P) (I := putS (lkI I q.2.1 q.2.2) s q.1) (J := J) (R := R) (Z := Z) hs hr).trans (by
      rw [ps_j (by decide), ps_j (by decide), ps_ne (by omega), lkI_7, lkI_ps (by omega), lkI_lkI])
    generalize cAt (q.1 1) r (nI 3) (nI 3) = com at *
    generalize lns (q.1 1) (q.1 4) r q.2.2 = ln at *
    have hM2 : putS (lkI I com ln) s q.1 76 2 = nI M := by rw [ps_ne (by omega), lkI_ne (by decide) (by decide)]; exact hM
    have hlf := fun P => (k_leastFree (L := L) (xs := xs) (d := d + 1) (P := P) (I := putS (lkI I com ln) s q.1) (J := J) (R := R) (Z := Z) hs hr hM2 h8).trans (by
      rw [ps_j (by decide), ps_ne (by omega), lkI_6, ps_ne (by omega), lkI_7])
    simp (discharger := omega) only [↓w78_0, ↓w78_1, ↓w78_4, ↓w78_5, ↓w78_6, ↓w78_7, ↓w78_8, ↓w78_12, ↓w78_14, ↓w78_17, ↓w78_18, ↓w78_19, ↓w78_20, ↓w78_23, ↓w78_24, ↓w78_25, ↓w78_26, ↓w78_29, ↓w78_31, ↓w78_33, ↓w78_34, ↓w78_37, ↓w78_40, ↓w78_41, ↓w78_42, ↓w78_43, ↓w78_44, ↓w78_46, ↓w78_49, ↓w78_52, ↓w78_55, ↓w78_58, ↓w78_59, ↓w78_62, ↓w78_63, ↓w78_64, ↓w78_65, ↓w78_66, ↓hla, ↓hlf, ↓kc_i, ↓kc_l, ↓kc_r, ↓kc_n, rc126, g126_0, g126_1, g126_2, p126_2, mul8, mul8', mul4, mul4', nI_add, inT, nclN, ltT, ltF, leT, leF, eqT, eqF, nzF, m1F, m1T, shr, shg, bI0, bI1, bo_bI, bo_1, bo_0, eq10, eq00, frT1, frT2, frT3, fit0, fit1, fit2, fit3, true_and, and_true, ↓reduceIte, Nat.reduceAdd, Nat.reduceMul, and_self, not_false_eq_true, not_true_eq_false, Nat.zero_add, Nat.add_zero]
    cases hw : lst (free com ln) (q.1 3) r M with
    | none =>
      simp (discharger := omega) only [↓w78_0, ↓w78_1, ↓w78_4, ↓w78_5, ↓w78_6, ↓w78_7, ↓w78_8, ↓w78_12, ↓w78_14, ↓w78_17, ↓w78_18, ↓w78_19, ↓w78_20, ↓w78_23, ↓w78_24, ↓w78_25, ↓w78_26, ↓w78_29, ↓w78_31, ↓w78_33, ↓w78_34, ↓w78_37, ↓w78_40, ↓w78_41, ↓w78_42, ↓w78_43, ↓w78_44, ↓w78_46, ↓w78_49, ↓w78_52, ↓w78_55, ↓w78_58, ↓w78_59, ↓w78_62, ↓w78_63, ↓w78_64, ↓w78_65, ↓w78_66, gS0 hs, gS1 hs, gS2 hs, gS3 hs, gS4 hs, gS5 hs, gS6 hs, gS7 hs, gS8 hs, gS9 hs, gS10 hs, gS11 hs, gS12 hs, giS1 hs, giS2 hs, giS3 hs, giS4 hs, giS5 hs, giS6 hs, giS7 hs, giS8 hs, giS9 hs, giS10 hs, giS11 hs, siS1 hs, siS2 hs, siS3 hs, siS4 hs, siS5 hs, siS6 hs, siS7 hs, siS8 hs, siS9 hs, siS10 hs, siS11 hs, pS0 hs, pS1 hs, rcS hs, ps_0, ps_j, ps_ne, st_ps, st_ps0, st_psne, st_ne, st_eq, st_st, upd_eq, upd_upd, mul8, mul8', mul4, mul4', nI_add, inT, nclN, ltT, ltF, leT, leF, eqT, eqF, nzF, m1F, m1T, shr, shg, bI0, bI1, bo_bI, bo_1, bo_0, eq10, eq00, frT1, frT2, frT3, fit0, fit1, fit2, fit3, true_and, and_true, ↓reduceIte, Nat.reduceAdd, Nat.reduceMul, and_self, not_false_eq_true, not_true_eq_false, Nat.zero_add, Nat.add_zero, oN]
    | some c =>
      have hcM := lst_lt hw
      have hpo := fun P => (k_partOf (L := L) (xs := xs) (d := d + 3) (P := P) (I := putS (lkI I com ln) s q.1) (J := J) (R := R) (Z := Z) (show c < 8 by omega)).trans (by
        rw [ps_ne (by omega), lkI_7])
      have hrp := fun P => k_runPart (L := L) (xs := xs) (d := d) (P := P) (I := lkI I com ln) (J := J) (R := R) (Z := Z) (V := q.1) (q := prt ln c) hs hr (by rw [lkI_ne (by decide) (by decide)]; exact hM) h8 (fun c hc => by rw [lkI_ne (by decide) (by decide)]; exact hk c hc) hq
      rw [lkI_ne (by decide) (by decide), lkI_ne (by decide) (by decide)] at hrp
      simp (discharger := omega) only [↓w78_0, ↓w78_1, ↓w78_4, ↓w78_5, ↓w78_6, ↓w78_7, ↓w78_8, ↓w78_12, ↓w78_14, ↓w78_17, ↓w78_18, ↓w78_19, ↓w78_20, ↓w78_23, ↓w78_24, ↓w78_25, ↓w78_26, ↓w78_29, ↓w78_31, ↓w78_33, ↓w78_34, ↓w78_37, ↓w78_40, ↓w78_41, ↓w78_42, ↓w78_43, ↓w78_44, ↓w78_46, ↓w78_49, ↓w78_52, ↓w78_55, ↓w78_58, ↓w78_59, ↓w78_62, ↓w78_63, ↓w78_64, ↓w78_65, ↓w78_66, ↓hpo, ↓hrp, ↓kc_i, ↓kc_l, ↓kc_r, ↓kc_n, rc126, g126_0, g126_1, g126_2, p126_2, mul8, mul8', mul4, mul4', nI_add, inT, nclN, ltT, ltF, leT, leF, eqT, eqF, nzF, m1F, m1T, shr, shg, bI0, bI1, bo_bI, bo_1, bo_0, eq10, eq00, frT1, frT2, frT3, fit0, fit1, fit2, fit3, true_and, and_true, ↓reduceIte, Nat.reduceAdd, Nat.reduceMul, and_self, not_false_eq_true, not_true_eq_false, Nat.zero_add, Nat.add_zero, oN]
      exact ih (i + 1) (rpV (I 77) (I 79) ky M r 8 (prt ln c) q.1, com, ln) _ (by omega) (okn_rp hq)
theorem k_runParts (hs : isS s) (hr : r < 5) (hM : I 76 2 = nI M) (h8 : M ≤ 8) (hk : ∀ c, c < M → I 78 c = nI (ky c) ∧ ky c < 4) (hq : okn V r) : Wp L xs (d+4) 78 0 [some (.ref (126)), some (.ref (s)), some (.int (nI r)), none, none, none] [] (mk (putS I s V) J R Z) P = (fun q' : Tq => P (some (.int (q'.1 7 r - V 7 r))) (mk (putS (lkI I q'.2.1 q'.2.2) s q'.1) J R Z)) (rps (I 77) (I 79) ky M r 8 (V, I 126 2, I 127)) := by
  have hs1 := hs.1
  simp (discharger := omega) only [↓w78_0, ↓w78_1, ↓w78_4, ↓w78_5, ↓w78_6, ↓w78_7, ↓w78_8, ↓w78_12, ↓w78_14, ↓w78_17, ↓w78_18, ↓w78_19, ↓w78_20, ↓w78_23, ↓w78_24, ↓w78_25, ↓w78_26, ↓w78_29, ↓w78_31, ↓w78_33, ↓w78_34, ↓w78_37, ↓w78_40, ↓w78_41, ↓w78_42, ↓w78_43, ↓w78_44, ↓w78_46, ↓w78_49, ↓w78_52, ↓w78_55, ↓w78_58, ↓w78_59, ↓w78_62, ↓w78_63, ↓w78_64, ↓w78_65, ↓w78_66, gS0 hs, gS1 hs, gS2 hs, gS3 hs, gS4 hs, gS5 hs, gS6 hs, gS7 hs, gS8 hs, gS9 hs, gS10 hs, gS11 hs, gS12 hs, giS1 hs, giS2 hs, giS3 hs, giS4 hs, giS5 hs, giS6 hs, giS7 hs, giS8 hs, giS9 hs, giS10 hs, giS11 hs, siS1 hs, siS2 hs, siS3 hs, siS4 hs, siS5 hs, siS6 hs, siS7 hs, siS8 hs, siS9 hs, siS10 hs, siS11 hs, pS0 hs, pS1 hs, rcS hs, ps_0, ps_j, ps_ne, st_ps, st_ps0, st_psne, st_ne, st_eq, st_st, upd_eq, upd_upd, mul8, mul8', mul4, mul4', nI_add, inT, nclN, ltT, ltF, leT, leF, eqT, eqF, nzF, m1F, m1T, shr, shg, bI0, bI1, bo_bI, bo_1, bo_0, eq10, eq00, frT1, frT2, frT3, fit0, fit1, fit2, fit3, true_and, and_true, ↓reduceIte, Nat.reduceAdd, Nat.reduceMul, and_self, not_false_eq_true, not_true_eq_false, Nat.zero_add, Nat.add_zero]
  refine Eq.trans ?_ (k_runParts1 (L := L) (xs := xs) (d := d) (P := P) (I := I) (J := J) (R := R) (Z := Z) (o := V 7 r) hs hr hM h8 hk 8 0 (V, I 126 2, I 127) none (by omega) hq)
  show _ = Wp L xs (d+4) 78 10 [some (.ref (126)), some (.ref (s)), some (.int (nI r)), some (.int (V 7 r)), some (.int (nI 0)), none] [] (mk (putS (lkI I (I 126 2) (I 127)) s V) J R Z) P
  rw [lkI_id]
end K8
