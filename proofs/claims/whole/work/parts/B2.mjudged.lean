def zM : Vw := fun j => if j = 5 then (fun k => if k < 40 then -1 else nI 0) else z0
def hoM (G : Gv) (n : Nat) : Nat → Int32 := fun c => if c < n then G 4 c else nI 0
/-- a new state of the model -/
def frM (G : Gv) : Vw := st (st zM 9 (hoM G (gM G))) 0 (upd z0 0 (allR (gN G)))
def vJuM (G : Gv) (Q : Wq) (m : Nat) (y : Int32) : Int32 := if isR 3 y = true then (fun q : Jq => if y = nI 2 then rIA q.1 else if y = nI 0 then oN q.2.1 else oN q.2.2) (jA G Q (frM G) m) else -2
section F2
variable {L : Nat} {xs : Nat → Int32} {d : Nat} {P : Option Value → Hp → Prop} {I : Mi} {J : Mj} {R : Mr} {Z : Mz} {r c r' c' k l N M o n m B a b t w nx mn s : Nat} {x y z : Int32} {V V' V0 W0 W : Vw} {f f1 f4 g : Nat → Int32} {G G' : Gv} {U : Uq} {Q : Wq}
theorem row_zM : row zM k = if k < 291 then (if 160 ≤ k ∧ k < 200 then -1 else nI 0) else nI 0 := by
  by_cases h : k < 291
  · rw [if_pos h]
    obtain ⟨j, i, hj, hi, rfl⟩ := ofs_of h
    rw [row_of hj hi]
    by_cases h5 : j = 5
    · subst h5
      have hi' : i < 40 := hi
      rw [if_pos (show 160 ≤ ofs 5 + i ∧ ofs 5 + i < 200 from ⟨(show 160 ≤ 160 + i by omega), (show 160 + i < 200 by omega)⟩)]
      show (if i < 40 then (-1 : Int32) else nI 0) = -1
      rw [if_pos hi']
    · rw [if_neg (fun q => h5 (ofs_inj hj (show 5 < 12 by decide) hi (show ofs j + i - 160 < szS 5 by show _ < 40; omega) (show ofs j + i = 160 + (ofs j + i - 160) by omega)).1)]
      show (if j = 5 then (fun k => if k < 40 then (-1 : Int32) else nI 0) else z0) i = nI 0
      rw [if_neg h5]; rfl
  · rw [if_neg h, row_ge (by omega)]
theorem m_fresh0 (hG : okG (mG I)) : Wp L xs d 207 0 [some (.ref (420)), none] [] (mk (pm I V) J R Z) P = P none (mk (pm I (frM (mG I))) J R Z) := by
  have hN : I 422 0 = nI (gN (mG I)) := hG.1.1
  have hM : I 422 2 = nI (gM (mG I)) := hG.2.1.1
  have h5 := hG.1.2
  have h8 := hG.2.1.2
  simp (discharger := omega) only [↓w207_0, ↓w207_1, ↓w207_3, ↓w207_6, ↓w207_9, ↓w207_10, ↓w207_13, ↓w207_14, ↓w207_15, ↓w207_18, ↓w207_21, ↓w207_22, ↓w207_25, ↓w207_28, ↓w207_29, ↓w207_32, ↓w207_33, ↓w207_34, ↓w207_37, ↓w207_40, ↓w207_41, ↓w207_43, ↓w207_44, ↓w207_47, ↓w207_48, ↓w207_49, ↓w207_52, ↓w207_53, ↓w207_56, ↓w207_59, ↓w207_60, ↓w207_61, ↓w207_62, ↓w207_65, ↓w207_66, ↓w207_67, ↓w207_68, ↓w207_71, ↓w207_74, ↓w207_75, ↓w207_78, ↓w207_81, ↓w207_82, ↓w207_83, ↓w207_86, ↓w207_87, ↓w207_88, ↓w207_89, ↓w207_90, ↓w207_91, ↓w207_92, mul8, mul8', mul4, mul4', nI_add, inT, nclN, ltT, ltF, leT, leF, eqT, eqF, nzF, m1F, m1T, shr, shg, bI0, bI1, bo_bI, bo_1, bo_0, eq10, eq00, frT1, frT2, frT3, fit0, fit1, fit2, fit3, true_and, and_true, ↓reduceIte, Nat.reduceAdd, Nat.reduceMul, and_self, not_false_eq_true, not_true_eq_false, Nat.zero_add, Nat.add_zero]
  have key : ∀ n, n ≤ 291 → Wp L xs d 207 2 [some (.ref (420)), some (.int (nI 0))] [] (mk (pm I V) J R Z) P = Wp L xs d 207 2 [some (.ref (420)), some (.int (nI n))] [] (mk (st I 451 (fun k => if k < n then (if 160 ≤ k ∧ k < 200 then -1 else nI 0) else row V k)) J R Z) P := by
    intro n
    induction n with
    | zero =>
      intro _
      have : (fun k => if k < 0 then (if 160 ≤ k ∧ k < 200 then (-1 : Int32) else nI 0) else row V k) = row V := by funext k; rw [if_neg (by omega)]
      rw [this]; rfl
    | succ n ih =>
      intro hn
      rw [ih (by omega)]
      refine w207_2.trans ?_
      have hup : ∀ v : Int32, (v = if 160 ≤ n ∧ n < 200 then -1 else nI 0) → upd (fun k => if k < n then (if 160 ≤ k ∧ k < 200 then (-1 : Int32) else nI 0) else row V k) n v = fun k => if k < n + 1 then (if 160 ≤ k ∧ k < 200 then (-1 : Int32) else nI 0) else row V k := fun v hv => by
        funext k; unfold upd
        by_cases hk : k = n
        · subst hk; rw [if_pos rfl, if_pos (by omega), hv]
        · rw [if_neg hk]
          dsimp only
          by_cases hk2 : k < n
          · rw [if_pos hk2, if_pos (show k < n + 1 by omega)]
          · rw [if_neg hk2, if_neg (show ¬ k < n + 1 by omega)]
      by_cases h1 : n < 160
      · simp (discharger := omega) only [↓w207_0, ↓w207_1, ↓w207_3, ↓w207_6, ↓w207_9, ↓w207_10, ↓w207_13, ↓w207_14, ↓w207_15, ↓w207_18, ↓w207_21, ↓w207_22, ↓w207_25, ↓w207_28, ↓w207_29, ↓w207_32, ↓w207_33, ↓w207_34, ↓w207_37, ↓w207_40, ↓w207_41, ↓w207_43, ↓w207_44, ↓w207_47, ↓w207_48, ↓w207_49, ↓w207_52, ↓w207_53, ↓w207_56, ↓w207_59, ↓w207_60, ↓w207_61, ↓w207_62, ↓w207_65, ↓w207_66, ↓w207_67, ↓w207_68, ↓w207_71, ↓w207_74, ↓w207_75, ↓w207_78, ↓w207_81, ↓w207_82, ↓w207_83, ↓w207_86, ↓w207_87, ↓w207_88, ↓w207_89, ↓w207_90, ↓w207_91, ↓w207_92, rc420, g420_0, p420_0, g420_1, p420_1, g420_2, g420_3, p420_3, g420_4, p420_4, g420_5, p420_5, g420_6, p420_6, g420_7, p420_7, g420_8, p420_8, g420_9, p420_9, g420_10, g420_11, g420_12, g420_13, g420_14, g420_15, g420_16, g420_17, g420_18, g420_19, p420_19, g420_20, g420_21, g420_22, g420_23, g420_24, g420_25, g420_26, g420_27, g420_28, g420_29, g420_30, g420_31, g420_32, p420_32, g420_33, g420_34, g420_35, g420_36, g420_37, g420_38, g420_39, g420_40, g420_41, g420_42, g420_43, g420_44, g420_45, g420_46, g420_47, p420_47, g420_48, g420_49, p420_49, gi451, si451, st_eq, st_st, st_ne, mul8, mul8', mul4, mul4', nI_add, inT, nclN, ltT, ltF, leT, leF, eqT, eqF, nzF, m1F, m1T, shr, shg, bI0, bI1, bo_bI, bo_1, bo_0, eq10, eq00, frT1, frT2, frT3, fit0, fit1, fit2, fit3, true_and, and_true, ↓reduceIte, Nat.reduceAdd, Nat.reduceMul, and_self, not_false_eq_true, not_true_eq_false, Nat.zero_add, Nat.add_zero]
        rw [hup _ (by rw [if_neg (by omega)])]
      · by_cases h2 : n < 200
        · simp (discharger := omega) only [↓w207_0, ↓w207_1, ↓w207_3, ↓w207_6, ↓w207_9, ↓w207_10, ↓w207_13, ↓w207_14, ↓w207_15, ↓w207_18, ↓w207_21, ↓w207_22, ↓w207_25, ↓w207_28, ↓w207_29, ↓w207_32, ↓w207_33, ↓w207_34, ↓w207_37, ↓w207_40, ↓w207_41, ↓w207_43, ↓w207_44, ↓w207_47, ↓w207_48, ↓w207_49, ↓w207_52, ↓w207_53, ↓w207_56, ↓w207_59, ↓w207_60, ↓w207_61, ↓w207_62, ↓w207_65, ↓w207_66, ↓w207_67, ↓w207_68, ↓w207_71, ↓w207_74, ↓w207_75, ↓w207_78, ↓w207_81, ↓w207_82, ↓w207_83, ↓w207_86, ↓w207_87, ↓w207_88, ↓w207_89, ↓w207_90, ↓w207_91, ↓w207_92, rc420, g420_0, p420_0, g420_1, p420_1, g420_2, g420_3, p420_3, g420_4, p420_4, g420_5, p420_5, g420_6, p420_6, g420_7, p420_7, g420_8, p420_8, g420_9, p420_9, g420_10, g420_11, g420_12, g420_13, g420_14, g420_15, g420_16, g420_17, g420_18, g420_19, p420_19, g420_20, g420_21, g420_22, g420_23, g420_24, g420_25, g420_26, g420_27, g420_28, g420_29, g420_30, g420_31, g420_32, p420_32, g420_33, g420_34, g420_35, g420_36, g420_37, g420_38, g420_39, g420_40, g420_41, g420_42, g420_43, g420_44, g420_45, g420_46, g420_47, p420_47, g420_48, g420_49, p420_49, gi451, si451, st_eq, st_st, st_ne, mul8, mul8', mul4, mul4', nI_add, inT, nclN, ltT, ltF, leT, leF, eqT, eqF, nzF, m1F, m1T, shr, shg, bI0, bI1, bo_bI, bo_1, bo_0, eq10, eq00, frT1, frT2, frT3, fit0, fit1, fit2, fit3, true_and, and_true, ↓reduceIte, Nat.reduceAdd, Nat.reduceMul, and_self, not_false_eq_true, not_true_eq_false, Nat.zero_add, Nat.add_zero]
          rw [hup _ (by rw [if_pos (by omega)])]
        · simp (discharger := omega) only [↓w207_0, ↓w207_1, ↓w207_3, ↓w207_6, ↓w207_9, ↓w207_10, ↓w207_13, ↓w207_14, ↓w207_15, ↓w207_18, ↓w207_21, ↓w207_22, ↓w207_25, ↓w207_28, ↓w207_29, ↓w207_32, ↓w207_33, ↓w207_34, ↓w207_37, ↓w207_40, ↓w207_41, ↓w207_43, ↓w207_44, ↓w207_47, ↓w207_48, ↓w207_49, ↓w207_52, ↓w207_53, ↓w207_56, ↓w207_59, ↓w207_60, ↓w207_61, ↓w207_62, ↓w207_65, ↓w207_66, ↓w207_67, ↓w207_68, ↓w207_71, ↓w207_74, ↓w207_75, ↓w207_78, ↓w207_81, ↓w207_82, ↓w207_83, ↓w207_86, ↓w207_87, ↓w207_88, ↓w207_89, ↓w207_90, ↓w207_91, ↓w207_92, rc420, g420_0, p420_0, g420_1, p420_1, g420_2, g420_3, p420_3, g420_4, p420_4, g420_5, p420_5, g420_6, p420_6, g420_7, p420_7, g420_8, p420_8, g420_9, p420_9, g420_10, g420_11, g420_12, g420_13, g420_14, g420_15, g420_16, g420_17, g420_18, g420_19, p420_19, g420_20, g420_21, g420_22, g420_23, g420_24, g420_25, g420_26, g420_27, g420_28, g420_29, g420_30, g420_31, g420_32, p420_32, g420_33, g420_34, g420_35, g420_36, g420_37, g420_38, g420_39, g420_40, g420_41, g420_42, g420_43, g420_44, g420_45, g420_46, g420_47, p420_47, g420_48, g420_49, p420_49, gi451, si451, st_eq, st_st, st_ne, mul8, mul8', mul4, mul4', nI_add, inT, nclN, ltT, ltF, leT, leF, eqT, eqF, nzF, m1F, m1T, shr, shg, bI0, bI1, bo_bI, bo_1, bo_0, eq10, eq00, frT1, frT2, frT3, fit0, fit1, fit2, fit3, true_and, and_true, ↓reduceIte, Nat.reduceAdd, Nat.reduceMul, and_self, not_false_eq_true, not_true_eq_false, Nat.zero_add, Nat.add_zero]
          rw [hup _ (by rw [if_neg (by omega)])]
  rw [key 291 (Nat.le_refl _)]
  have hz : st I 451 (fun k => if k < 291 then (if 160 ≤ k ∧ k < 200 then (-1 : Int32) else nI 0) else row V k) = pm I zM := by
    unfold pm
    congr 1
    funext k
    rw [row_zM]
    by_cases hk : k < 291
    · rw [if_pos hk, if_pos hk]
    · rw [if_neg hk, if_neg hk, row_ge (by omega)]
  rw [hz]
  refine w207_2.trans ?_
  simp (discharger := omega) only [↓w207_0, ↓w207_1, ↓w207_3, ↓w207_6, ↓w207_9, ↓w207_10, ↓w207_13, ↓w207_14, ↓w207_15, ↓w207_18, ↓w207_21, ↓w207_22, ↓w207_25, ↓w207_28, ↓w207_29, ↓w207_32, ↓w207_33, ↓w207_34, ↓w207_37, ↓w207_40, ↓w207_41, ↓w207_43, ↓w207_44, ↓w207_47, ↓w207_48, ↓w207_49, ↓w207_52, ↓w207_53, ↓w207_56, ↓w207_59, ↓w207_60, ↓w207_61, ↓w207_62, ↓w207_65, ↓w207_66, ↓w207_67, ↓w207_68, ↓w207_71, ↓w207_74, ↓w207_75, ↓w207_78, ↓w207_81, ↓w207_82, ↓w207_83, ↓w207_86, ↓w207_87, ↓w207_88, ↓w207_89, ↓w207_90, ↓w207_91, ↓w207_92, mul8, mul8', mul4, mul4', nI_add, inT, nclN, ltT, ltF, leT, leF, eqT, eqF, nzF, m1F, m1T, shr, shg, bI0, bI1, bo_bI, bo_1, bo_0, eq10, eq00, frT1, frT2, frT3, fit0, fit1, fit2, fit3, true_and, and_true, ↓reduceIte, Nat.reduceAdd, Nat.reduceMul, and_self, not_false_eq_true, not_true_eq_false, Nat.zero_add, Nat.add_zero]
  have key2 : ∀ n, n ≤ gM (mG I) → Wp L xs d 207 42 [some (.ref (420)), some (.int (nI 0))] [] (mk (pm I zM) J R Z) P = Wp L xs d 207 42 [some (.ref (420)), some (.int (nI n))] [] (mk (pm I (st zM 9 (hoM (mG I) n))) J R Z) P := by
    intro n
    induction n with
    | zero =>
      intro _
      have : hoM (mG I) 0 = zM 9 := by funext k; unfold hoM; rw [if_neg (by omega)]; rfl
      rw [this, st_id]
    | succ n ih =>
      intro hn
      rw [ih (by omega)]
      refine w207_42.trans ?_
      have hup : upd (hoM (mG I) n) n (I 427 n) = hoM (mG I) (n + 1) := by
        funext k; unfold upd hoM
        by_cases hk : k = n
        · subst hk; rw [if_pos rfl, if_pos (by omega)]; rfl
        · rw [if_neg hk]
          by_cases hk2 : k < n
          · rw [if_pos hk2, if_pos (by omega)]
          · rw [if_neg hk2, if_neg (by omega)]
      simp (discharger := omega) only [↓w207_0, ↓w207_1, ↓w207_3, ↓w207_6, ↓w207_9, ↓w207_10, ↓w207_13, ↓w207_14, ↓w207_15, ↓w207_18, ↓w207_21, ↓w207_22, ↓w207_25, ↓w207_28, ↓w207_29, ↓w207_32, ↓w207_33, ↓w207_34, ↓w207_37, ↓w207_40, ↓w207_41, ↓w207_43, ↓w207_44, ↓w207_47, ↓w207_48, ↓w207_49, ↓w207_52, ↓w207_53, ↓w207_56, ↓w207_59, ↓w207_60, ↓w207_61, ↓w207_62, ↓w207_65, ↓w207_66, ↓w207_67, ↓w207_68, ↓w207_71, ↓w207_74, ↓w207_75, ↓w207_78, ↓w207_81, ↓w207_82, ↓w207_83, ↓w207_86, ↓w207_87, ↓w207_88, ↓w207_89, ↓w207_90, ↓w207_91, ↓w207_92, rc420, g420_0, p420_0, g420_1, p420_1, g420_2, g420_3, p420_3, g420_4, p420_4, g420_5, p420_5, g420_6, p420_6, g420_7, p420_7, g420_8, p420_8, g420_9, p420_9, g420_10, g420_11, g420_12, g420_13, g420_14, g420_15, g420_16, g420_17, g420_18, g420_19, p420_19, g420_20, g420_21, g420_22, g420_23, g420_24, g420_25, g420_26, g420_27, g420_28, g420_29, g420_30, g420_31, g420_32, p420_32, g420_33, g420_34, g420_35, g420_36, g420_37, g420_38, g420_39, g420_40, g420_41, g420_42, g420_43, g420_44, g420_45, g420_46, g420_47, p420_47, g420_48, g420_49, p420_49, gi451, si451, gi422, si422, gi427, si427, pm_eq, pm_ne, st_pm, st_pmne, rd1, rd2, rd3, rd4, rd5, rd6, rd2s, rd3s, rd4s, rd5s, rd7, rd8, rd9, rd10, rd11, rd0, rdc, wr1, wr2, wr3, wr4, wr5, wr6, wr2s, wr3s, wr4s, wr5s, wr7, wr8, wr9, wr10, wr11, wr0, wrc, st_ne, st_eq, st_st, hM, hup, mul8, mul8', mul4, mul4', nI_add, inT, nclN, ltT, ltF, leT, leF, eqT, eqF, nzF, m1F, m1T, shr, shg, bI0, bI1, bo_bI, bo_1, bo_0, eq10, eq00, frT1, frT2, frT3, fit0, fit1, fit2, fit3, true_and, and_true, ↓reduceIte, Nat.reduceAdd, Nat.reduceMul, and_self, not_false_eq_true, not_true_eq_false, Nat.zero_add, Nat.add_zero]
  rw [key2 _ (Nat.le_refl _)]
  refine w207_42.trans ?_
  simp (discharger := omega) only [↓w207_0, ↓w207_1, ↓w207_3, ↓w207_6, ↓w207_9, ↓w207_10, ↓w207_13, ↓w207_14, ↓w207_15, ↓w207_18, ↓w207_21, ↓w207_22, ↓w207_25, ↓w207_28, ↓w207_29, ↓w207_32, ↓w207_33, ↓w207_34, ↓w207_37, ↓w207_40, ↓w207_41, ↓w207_43, ↓w207_44, ↓w207_47, ↓w207_48, ↓w207_49, ↓w207_52, ↓w207_53, ↓w207_56, ↓w207_59, ↓w207_60, ↓w207_61, ↓w207_62, ↓w207_65, ↓w207_66, ↓w207_67, ↓w207_68, ↓w207_71, ↓w207_74, ↓w207_75, ↓w207_78, ↓w207_81, ↓w207_82, ↓w207_83, ↓w207_86, ↓w207_87, ↓w207_88, ↓w207_89, ↓w207_90, ↓w207_91, ↓w207_92, rc420, g420_0, p420_0, g420_1, p420_1, g420_2, g420_3, p420_3, g420_4, p420_4, g420_5, p420_5, g420_6, p420_6, g420_7, p420_7, g420_8, p420_8, g420_9, p420_9, g420_10, g420_11, g420_12, g420_13, g420_14, g420_15, g420_16, g420_17, g420_18, g420_19, p420_19, g420_20, g420_21, g420_22, g420_23, g420_24, g420_25, g420_26, g420_27, g420_28, g420_29, g420_30, g420_31, g420_32, p420_32, g420_33, g420_34, g420_35, g420_36, g420_37, g420_38, g420_39, g420_40, g420_41, g420_42, g420_43, g420_44, g420_45, g420_46, g420_47, p420_47, g420_48, g420_49, p420_49, gi451, si451, gi422, si422, pm_eq, pm_ne, st_pm, st_pmne, rd1, rd2, rd3, rd4, rd5, rd6, rd2s, rd3s, rd4s, rd5s, rd7, rd8, rd9, rd10, rd11, rd0, rdc, wr1, wr2, wr3, wr4, wr5, wr6, wr2s, wr3s, wr4s, wr5s, wr7, wr8, wr9, wr10, wr11, wr0, wrc, st_ne, st_eq, st_st, hM, hN, mul8, mul8', mul4, mul4', nI_add, inT, nclN, ltT, ltF, leT, leF, eqT, eqF, nzF, m1F, m1T, shr, shg, bI0, bI1, bo_bI, bo_1, bo_0, eq10, eq00, frT1, frT2, frT3, fit0, fit1, fit2, fit3, true_and, and_true, ↓reduceIte, Nat.reduceAdd, Nat.reduceMul, and_self, not_false_eq_true, not_true_eq_false, Nat.zero_add, Nat.add_zero]
  rfl
theorem frM_ok (hG : okG G) : okV 0 G (frM G) := by
  have h5 := hG.1.2
  have h8 := hG.2.1.2
  have cz : ∀ n, can n z0 := fun n k _ => rfl
  unfold okV frM
  simp (discharger := omega) only [st_ne, st_eq]
  refine ⟨⟨fun k hk => by rw [upd_ne (by omega)]; rfl, ?_, ?_⟩, ⟨cz 40, cz 5, fun q _ => ⟨0, by omega, rfl⟩, fun _ _ _ _ _ => rfl, fun _ _ _ _ _ => rfl, fun r _ => ?_⟩, ⟨cz 40, fun q _ => ⟨0, by omega, rfl⟩⟩, ⟨cz 40, fun q _ => ⟨0, by omega, rfl⟩⟩, ⟨cz 40, fun q _ o ho => ?_⟩, fun k hk => ?_, cz 40, cz 20, ⟨fun k hk => ?_, fun c hc => ?_⟩, ⟨cz 8, fun c _ k hk => ?_⟩, ⟨cz 8, fun c _ k hk => ?_⟩⟩
  · rw [upd_eq]; exact allR_lt h5
  · rw [upd_ne (by decide)]; exact z_M
  · show z0 r = nI (pcn (rn z0 r))
    rw [rn_z, pcn_z]; rfl
  · exact z_M (p := fun o => o < gM G) o ho
  · show (if k < 40 then (-1 : Int32) else nI 0) = nI 0
    rw [if_neg (by omega)]
  · unfold hoM; rw [if_neg (by omega)]
  · unfold hoM; rw [if_pos hc]; exact hG.2.2.1 c hc
  · exact z_M (p := fun o => o < gN G) k hk
  · exact z_M (p := fun o => o < gN G) k hk
theorem fr_sm (hG : okG G) : smV G (frs (gN G) (G 4)) (frM G) := by
  have h8 := hG.2.1.2
  refine ⟨fun j h5 h9 => ?_, fun r c hr hc => ?_, fun k hk => ?_, fun c hc => ?_, fun k hk => ?_⟩
  · unfold frM
    by_cases h0 : j = 0
    · subst h0
      rw [st_eq]
      show _ = upd (upd z0 0 (allR (gN G))) 1 (nI 0)
      funext k; unfold upd
      by_cases h1 : k = 1
      · subst h1; rfl
      · rw [if_neg h1]
    · rw [st_ne h0, st_ne h9]
      show (if j = 5 then (fun k => if k < 40 then (-1 : Int32) else nI 0) else z0) = _
      rw [if_neg h5]
      unfold frs t12
      split <;> first | rfl | omega
  · unfold frM
    rw [st_ne (by decide), st_ne (by decide)]
    show (if 8 * r + c < 40 then (-1 : Int32) else nI 0) = _
    rw [if_pos (by omega), if_neg]
    intro q
    have : nI 0 = nI 4 := q.2.1
    exact absurd this (by decide)
  · unfold frM
    rw [st_ne (by decide), st_ne (by decide)]
    show (if k < 40 then (-1 : Int32) else nI 0) = nI 0
    rw [if_neg (by omega)]
  · unfold frM
    rw [st_ne (by decide), st_eq]
    unfold hoM; rw [if_pos hc]; rfl
  · unfold frM
    rw [st_ne (by decide), st_eq]
    unfold hoM; rw [if_neg (by omega)]
theorem jA_sm (hG : okG G) (hX : okX G) (hV : okV B G V0) (hs : smV G V0 W0) (hW : okW (gN G) (gM G) m Q) (hB : B + 100 < 2147483648) : ∀ n, n ≤ m → smV G (jA G Q V0 n).1 (jA G Q W0 n).1 ∧ (jA G Q W0 n).2 = (jA G Q V0 n).2
  | 0, _ => ⟨hs, rfl⟩
  | n + 1, hn => by
    obtain ⟨h1, h2, h3⟩ := hW.2 n (by omega)
    obtain ⟨i1, i2⟩ := jA_sm hG hX hV hs hW hB n (by omega)
    have hok := jA_ok hG hX hV hW hB n (by omega)
    obtain ⟨a1, a2, a3⟩ := stp_sm h1 i1 hok hG hX h2 h3
    rw [jA_s, jA_s]
    unfold jS
    refine ⟨a2, ?_⟩
    dsimp only
    have er : rIA (stp G (jA G Q W0 n).1 (Q n).1 (Q n).2.1 (Q n).2.2).2 = rIA (stp G (jA G Q V0 n).1 (Q n).1 (Q n).2.1 (Q n).2.2).2 := by unfold rIA; rw [a2.1 7 (by decide) (by decide)]
    rw [a3, i2, er]
theorem jS_ag (hag : agG G G') (h1 : (Q n).1 < 11) (h2 : (Q n).1 < 7 → (Q n).2.1 < gM G) (q : Jq) : jS G Q n q = jS G' Q n q := by
  have e1 := ag_stp (V := q.1) (r := (Q n).2.2) h1 hag h2
  have e2 := ag_cnd (V := q.1) (r := (Q n).2.2) h1 hag h2
  unfold jS
  simp only [e1, e2]
theorem jA_ag (hag : agG G G') (hW : okW (gN G) (gM G) m Q) (n : Nat) (hn : n ≤ m) : jA G Q V0 n = jA G' Q V0 n := by
  induction n with
  | zero =>
    have e : ∀ G, jA G Q V0 0 = (V0, none, none) := fun _ => rfl
    rw [e, e]
  | succ n ih =>
    obtain ⟨h1, h2, h3⟩ := hW.2 n (by omega)
    rw [jA_s, jA_s, ih (by omega)]
    exact jS_ag hag h1 h2 _
theorem frM_ag (hag : agG G G') : frM G = frM G' := by
  unfold frM
  have : hoM G (gM G) = hoM G' (gM G') := by
    funext c
    unfold hoM
    rw [← ag_M hag]
    by_cases hc : c < gM G
    · rw [if_pos hc, if_pos hc, hag.2 4 c (by decide) (by decide) hc]
    · rw [if_neg hc, if_neg hc]
  rw [this, ag_N hag]
theorem vJud_eq (hag : agG G G') (hG : okG G) (hX : okX G) (h4 : can 8 (G 4)) (hW : okW (gN G) (gM G) m Q) : vJuM G' Q m y = vJud G Q m y := by
  unfold vJuM vJud
  rw [← frM_ag hag, ← jA_ag hag hW m (Nat.le_refl m)]
  obtain ⟨h1, h2⟩ := jA_sm (B := 0) hG hX (frs_ok hG h4) (fr_sm hG) hW (by omega) m (Nat.le_refl m)
  have er : rIA (jA G Q (frM G) m).1 = rIA (jA G Q (frs (gN G) (G 4)) m).1 := by unfold rIA; rw [h1.1 7 (by decide) (by decide)]
  dsimp only
  rw [er, h2]
theorem WoM_T (h : WoM I l m Q) : WoM (st I 420 (upd (I 420) 0 (nI 0))) l m Q := by
  unfold WoM at h ⊢
  rw [st_ne (by decide), st_ne (by decide), st_ne (by decide), st_ne (by decide)]; exact h
theorem m_judged (hG : okM I) (hc : can 291 (I 452)) (hC : WoM I 0 m Q) (hW : okW (gN (mG I)) (gM (mG I)) m Q) : ∃ I', (∀ a, a ≠ 420 → a ≠ 452 → I' a = I a) ∧ I' 420 = upd (I 420) 0 (nI 0) ∧ can 291 (I' 452) ∧ ∀ P, Wp L xs (d+7) 280 0 [some (.ref (420)), some (.int (y)), none, none, none] [] (mk (pm I V) J R Z) P = P (some (.int (vJuM (mG I) Q m y))) (mk (pm I' V) J R Z) := by
  have hm40 := hW.1
  unfold vJuM
  by_cases hy : isR 3 y = true
  · rw [if_pos hy]
    obtain ⟨j, hj, rfl⟩ := isR_t hy (by omega)
    have hin : inr (nI j) (nI 0) (nI 2) = true := by
      have hj' : j = 0 ∨ j = 1 ∨ j = 2 := by omega
      rcases hj' with rfl | rfl | rfl <;> decide
    generalize hT : st (st I 420 (upd (I 420) 0 (nI 0))) 452 (row V) = T
    have eT : ∀ a, a ≠ 420 → a ≠ 452 → T a = I a := fun a h1 h2 => by rw [← hT, st_ne h2, st_ne h1]
    have eG : mG T = mG I := by
      funext q; unfold mG; split <;> exact eT _ (by decide) (by decide)
    have hGT : okM T := by unfold okM; rw [eG]; exact hG
    have hcp := fun P => m_cpAside (L := L) (xs := xs) (d := d + 6) (I := st I 420 (upd (I 420) 0 (nI 0))) (J := J) (R := R) (Z := Z) (P := P) (V := V) (by rw [st_ne (by decide)]; exact hc)
    rw [hT] at hcp
    have hfr := fun P => m_fresh0 (L := L) (xs := xs) (d := d + 6) (I := T) (J := J) (R := R) (Z := Z) (P := P) (V := V) hGT.1
    rw [eG] at hfr
    have hbk := fun (W : Vw) P => m_cpBack (L := L) (xs := xs) (d := d + 6) (I := T) (J := J) (R := R) (Z := Z) (P := P) (V := W) (V0 := V) (l := 452) (Or.inl rfl) (by rw [← hT, st_eq])
    have hm : T 443 0 = nI m := by rw [eT _ (by decide) (by decide)]; exact hC.1
    have key : ∀ n, n ≤ m → ∀ P, Wp L xs (d+7) 280 41 [some (.ref (420)), some (.int (nI j)), some (.int (-1)), some (.int (-1)), some (.int (nI 0))] [] (mk (pm T (frM (mG I))) J R Z) P = Wp L xs (d+7) 280 41 [some (.ref (420)), some (.int (nI j)), some (.int (oN (jA (mG I) Q (frM (mG I)) n).2.1)), some (.int (oN (jA (mG I) Q (frM (mG I)) n).2.2)), some (.int (nI n))] [] (mk (pm T (jA (mG I) Q (frM (mG I)) n).1) J R Z) P := by
      intro n
      induction n with
      | zero => intro _ P; rfl
      | succ n ih =>
        intro hn P
        rw [ih (by omega) P]
        have hokn := jA_ok (B := 0) hG.1 hG.2 (frM_ok hG.1) hW (by omega) n (by omega)
        have hb1 := oN_l0 (fun q (h : (jA (mG I) Q (frM (mG I)) n).2.1 = some q) => Nat.lt_of_lt_of_le (jA_lt (Or.inl h)) (show n ≤ 40 by omega))
        have hf1 := oN_l0 (fun q (h : (jA (mG I) Q (frM (mG I)) n).2.2 = some q) => Nat.lt_of_lt_of_le (jA_lt (Or.inr h)) (show n ≤ 40 by omega))
        rw [jA_s]
        generalize jA (mG I) Q (frM (mG I)) n = q at *
        obtain ⟨w1, w2, w3⟩ := hW.2 n (by omega)
        obtain ⟨s1, s2, s3⟩ := hC.2 n (by omega)
        rw [Nat.mul_zero, Nat.zero_add] at s1 s2 s3
        obtain ⟨c', hc', hcc⟩ : ∃ c', I 445 n = nI c' ∧ ((Q n).1 < 7 → c' = (Q n).2.1) := by
          by_cases h : (Q n).1 < 7
          · exact ⟨_, s2 h, fun _ => rfl⟩
          · obtain ⟨u, hu⟩ := of32 (I 445 n)
            exact ⟨u, hu, fun z => absurd z h⟩
        obtain ⟨r', hr', hrr⟩ : ∃ r', I 446 n = nI r' ∧ (rc_ (Q n).1 → r' = (Q n).2.2) := by
          by_cases h : rc_ (Q n).1
          · exact ⟨_, s3 h, fun _ => rfl⟩
          · obtain ⟨u, hu⟩ := of32 (I 446 n)
            exact ⟨u, hu, fun z => absurd z h⟩
        have s1' : T 444 n = nI (Q n).1 := by rw [eT _ (by decide) (by decide)]; exact s1
        have s2' : T 445 n = nI c' := by rw [eT _ (by decide) (by decide)]; exact hc'
        have s3' : T 446 n = nI r' := by rw [eT _ (by decide) (by decide)]; exact hr'
        have hun := stp_un (G := mG I) (V := q.1) (w := (Q n).1) (c := c') (c' := (Q n).2.1) (r := r') (r' := (Q n).2.2) w1 hcc hrr
        have hdo := fun P => m_isDone (L := L) (xs := xs) (d := d) (I := T) (J := J) (R := R) (Z := Z) (P := P) (V := q.1) (w := (Q n).1) (c := c') (r := r') w1 hGT (by rw [eG]; exact hokn) (by omega) (fun z => by rw [eG, hcc z]; exact w2 z) (fun z => by rw [eG, hrr z]; exact w3 z)
        rw [eG, hun.1, hun.2] at hdo
        have hjS : jS (mG I) Q n q = ((stp (mG I) q.1 (Q n).1 (Q n).2.1 (Q n).2.2).2, if cnd (mG I) q.1 (Q n).1 (Q n).2.1 (Q n).2.2 = false ∧ q.2.1 = none then some n else q.2.1, if q.2.2 = none ∧ nI 0 < rIA (stp (mG I) q.1 (Q n).1 (Q n).2.1 (Q n).2.2).2 then some n else q.2.2) := rfl
        rw [hjS]
        generalize (stp (mG I) q.1 (Q n).1 (Q n).2.1 (Q n).2.2).2 = sv at *
        generalize cnd (mG I) q.1 (Q n).1 (Q n).2.1 (Q n).2.2 = cd at *
        refine w280_41.trans ?_
        have hle : (rIA sv ≤ nI 0) = (¬ nI 0 < rIA sv) := propext Int32.not_lt.symm
        have hb2 : (nI 0 ≤ oN q.2.1) = (¬ q.2.1 = none) := by rw [← hb1]; exact propext Int32.not_lt.symm
        have hf2 : (nI 0 ≤ oN q.2.2) = (¬ q.2.2 = none) := by rw [← hf1]; exact propext Int32.not_lt.symm
        simp (discharger := omega) only [↓w280_0, ↓w280_1, ↓w280_2, ↓w280_5, ↓w280_6, ↓w280_7, ↓w280_8, ↓w280_11, ↓w280_14, ↓w280_16, ↓w280_17, ↓w280_18, ↓w280_21, ↓w280_22, ↓w280_23, ↓w280_26, ↓w280_27, ↓w280_30, ↓w280_31, ↓w280_34, ↓w280_35, ↓w280_36, ↓w280_37, ↓w280_38, ↓w280_39, ↓w280_43, ↓w280_44, ↓w280_47, ↓w280_48, ↓w280_49, ↓w280_52, ↓w280_53, ↓w280_54, ↓w280_57, ↓w280_59, ↓w280_60, ↓w280_61, ↓w280_64, ↓w280_66, ↓w280_67, ↓w280_68, ↓w280_71, ↓w280_73, ↓w280_74, ↓w280_77, ↓w280_80, ↓w280_81, ↓w280_84, ↓w280_86, ↓w280_87, ↓w280_88, ↓w280_91, ↓w280_94, ↓w280_95, ↓w280_98, ↓w280_100, ↓w280_101, ↓w280_104, ↓w280_107, ↓w280_108, ↓w280_111, ↓w280_113, ↓w280_114, ↓w280_117, ↓w280_118, ↓w280_119, ↓w280_122, ↓w280_123, ↓w280_126, ↓w280_127, ↓w280_130, ↓w280_131, ↓w280_134, ↓w280_135, ↓w280_136, ↓w280_139, ↓w280_140, ↓w280_143, ↓w280_145, rc420, g420_0, p420_0, g420_1, p420_1, g420_2, g420_3, p420_3, g420_4, p420_4, g420_5, p420_5, g420_6, p420_6, g420_7, p420_7, g420_8, p420_8, g420_9, p420_9, g420_10, g420_11, g420_12, g420_13, g420_14, g420_15, g420_16, g420_17, g420_18, g420_19, p420_19, g420_20, g420_21, g420_22, g420_23, g420_24, g420_25, g420_26, g420_27, g420_28, g420_29, g420_30, g420_31, g420_32, p420_32, g420_33, g420_34, g420_35, g420_36, g420_37, g420_38, g420_39, g420_40, g420_41, g420_42, g420_43, g420_44, g420_45, g420_46, g420_47, p420_47, g420_48, g420_49, p420_49, gi443, si443, gi444, si444, gi445, si445, gi446, si446, pm_eq, pm_ne, st_pm, st_pmne, rd1, rd2, rd3, rd4, rd5, rd6, rd2s, rd3s, rd4s, rd5s, rd7, rd8, rd9, rd10, rd11, rd0, rdc, wr1, wr2, wr3, wr4, wr5, wr6, wr2s, wr3s, wr4s, wr5s, wr7, wr8, wr9, wr10, wr11, wr0, wrc, st_ne, st_eq, st_st, hm, s1', s2', s3', ↓hdo, ↓m_ranInAll, ↓kc_i, ↓kc_l, ↓kc_r, ↓kc_n, hb2, hf2, hle, mul8, mul8', mul4, mul4', nI_add, inT, nclN, ltT, ltF, leT, leF, eqT, eqF, nzF, m1F, m1T, shr, shg, bI0, bI1, bo_bI, bo_1, bo_0, eq10, eq00, frT1, frT2, frT3, fit0, fit1, fit2, fit3, true_and, and_true, ↓reduceIte, Nat.reduceAdd, Nat.reduceMul, and_self, not_false_eq_true, not_true_eq_false, Nat.zero_add, Nat.add_zero]
        cases cd <;> by_cases hb : q.2.1 = none <;> by_cases hf : q.2.2 = none <;> by_cases h0 : nI 0 < rIA sv <;> simp [hb, hf, h0, oN]
    refine ⟨T, eT, by rw [← hT, st_ne (by decide), st_eq], fun k hk => by rw [← hT, st_eq]; exact row_ge hk, fun P => ?_⟩
    simp (discharger := omega) only [↓w280_0, ↓w280_1, ↓w280_2, ↓w280_5, ↓w280_6, ↓w280_7, ↓w280_8, ↓w280_11, ↓w280_14, ↓w280_16, ↓w280_17, ↓w280_18, ↓w280_21, ↓w280_22, ↓w280_23, ↓w280_26, ↓w280_27, ↓w280_30, ↓w280_31, ↓w280_34, ↓w280_35, ↓w280_36, ↓w280_37, ↓w280_38, ↓w280_39, ↓w280_43, ↓w280_44, ↓w280_47, ↓w280_48, ↓w280_49, ↓w280_52, ↓w280_53, ↓w280_54, ↓w280_57, ↓w280_59, ↓w280_60, ↓w280_61, ↓w280_64, ↓w280_66, ↓w280_67, ↓w280_68, ↓w280_71, ↓w280_73, ↓w280_74, ↓w280_77, ↓w280_80, ↓w280_81, ↓w280_84, ↓w280_86, ↓w280_87, ↓w280_88, ↓w280_91, ↓w280_94, ↓w280_95, ↓w280_98, ↓w280_100, ↓w280_101, ↓w280_104, ↓w280_107, ↓w280_108, ↓w280_111, ↓w280_113, ↓w280_114, ↓w280_117, ↓w280_118, ↓w280_119, ↓w280_122, ↓w280_123, ↓w280_126, ↓w280_127, ↓w280_130, ↓w280_131, ↓w280_134, ↓w280_135, ↓w280_136, ↓w280_139, ↓w280_140, ↓w280_143, ↓w280_145, ↓m_within, hin, bI_t, ↓hcp, ↓hfr, ↓kc_i, ↓kc_l, ↓kc_r, ↓kc_n, rc420, g420_0, p420_0, g420_1, p420_1, g420_2, g420_3, p420_3, g420_4, p420_4, g420_5, p420_5, g420_6, p420_6, g420_7, p420_7, g420_8, p420_8, g420_9, p420_9, g420_10, g420_11, g420_12, g420_13, g420_14, g420_15, g420_16, g420_17, g420_18, g420_19, p420_19, g420_20, g420_21, g420_22, g420_23, g420_24, g420_25, g420_26, g420_27, g420_28, g420_29, g420_30, g420_31, g420_32, p420_32, g420_33, g420_34, g420_35, g420_36, g420_37, g420_38, g420_39, g420_40, g420_41, g420_42, g420_43, g420_44, g420_45, g420_46, g420_47, p420_47, g420_48, g420_49, p420_49, pm_eq, pm_ne, st_pm, st_pmne, rd1, rd2, rd3, rd4, rd5, rd6, rd2s, rd3s, rd4s, rd5s, rd7, rd8, rd9, rd10, rd11, rd0, rdc, wr1, wr2, wr3, wr4, wr5, wr6, wr2s, wr3s, wr4s, wr5s, wr7, wr8, wr9, wr10, wr11, wr0, wrc, st_ne, st_eq, st_st, mul8, mul8', mul4, mul4', nI_add, inT, nclN, ltT, ltF, leT, leF, eqT, eqF, nzF, m1F, m1T, shr, shg, bI0, bI1, bo_bI, bo_1, bo_0, eq10, eq00, frT1, frT2, frT3, fit0, fit1, fit2, fit3, true_and, and_true, ↓reduceIte, Nat.reduceAdd, Nat.reduceMul, and_self, not_false_eq_true, not_true_eq_false, Nat.zero_add, Nat.add_zero]
    rw [key m (Nat.le_refl m) P]
    refine w280_41.trans ?_
    generalize jA (mG I) Q (frM (mG I)) m = q
    have hj' : j = 0 ∨ j = 1 ∨ j = 2 := by omega
    rcases hj' with rfl | rfl | rfl
    · simp (discharger := omega) only [↓w280_0, ↓w280_1, ↓w280_2, ↓w280_5, ↓w280_6, ↓w280_7, ↓w280_8, ↓w280_11, ↓w280_14, ↓w280_16, ↓w280_17, ↓w280_18, ↓w280_21, ↓w280_22, ↓w280_23, ↓w280_26, ↓w280_27, ↓w280_30, ↓w280_31, ↓w280_34, ↓w280_35, ↓w280_36, ↓w280_37, ↓w280_38, ↓w280_39, ↓w280_43, ↓w280_44, ↓w280_47, ↓w280_48, ↓w280_49, ↓w280_52, ↓w280_53, ↓w280_54, ↓w280_57, ↓w280_59, ↓w280_60, ↓w280_61, ↓w280_64, ↓w280_66, ↓w280_67, ↓w280_68, ↓w280_71, ↓w280_73, ↓w280_74, ↓w280_77, ↓w280_80, ↓w280_81, ↓w280_84, ↓w280_86, ↓w280_87, ↓w280_88, ↓w280_91, ↓w280_94, ↓w280_95, ↓w280_98, ↓w280_100, ↓w280_101, ↓w280_104, ↓w280_107, ↓w280_108, ↓w280_111, ↓w280_113, ↓w280_114, ↓w280_117, ↓w280_118, ↓w280_119, ↓w280_122, ↓w280_123, ↓w280_126, ↓w280_127, ↓w280_130, ↓w280_131, ↓w280_134, ↓w280_135, ↓w280_136, ↓w280_139, ↓w280_140, ↓w280_143, ↓w280_145, ↓m_ranInAll, ↓hbk, ↓kc_i, ↓kc_l, ↓kc_r, ↓kc_n, rc420, g420_0, p420_0, g420_1, p420_1, g420_2, g420_3, p420_3, g420_4, p420_4, g420_5, p420_5, g420_6, p420_6, g420_7, p420_7, g420_8, p420_8, g420_9, p420_9, g420_10, g420_11, g420_12, g420_13, g420_14, g420_15, g420_16, g420_17, g420_18, g420_19, p420_19, g420_20, g420_21, g420_22, g420_23, g420_24, g420_25, g420_26, g420_27, g420_28, g420_29, g420_30, g420_31, g420_32, p420_32, g420_33, g420_34, g420_35, g420_36, g420_37, g420_38, g420_39, g420_40, g420_41, g420_42, g420_43, g420_44, g420_45, g420_46, g420_47, p420_47, g420_48, g420_49, p420_49, gi443, si443, pm_eq, pm_ne, st_pm, st_pmne, rd1, rd2, rd3, rd4, rd5, rd6, rd2s, rd3s, rd4s, rd5s, rd7, rd8, rd9, rd10, rd11, rd0, rdc, wr1, wr2, wr3, wr4, wr5, wr6, wr2s, wr3s, wr4s, wr5s, wr7, wr8, wr9, wr10, wr11, wr0, wrc, st_ne, st_eq, st_st, hm, mul8, mul8', mul4, mul4', nI_add, inT, nclN, ltT, ltF, leT, leF, eqT, eqF, nzF, m1F, m1T, shr, shg, bI0, bI1, bo_bI, bo_1, bo_0, eq10, eq00, frT1, frT2, frT3, fit0, fit1, fit2, fit3, true_and, and_true, ↓reduceIte, Nat.reduceAdd, Nat.reduceMul, and_self, not_false_eq_true, not_true_eq_false, Nat.zero_add, Nat.add_zero]
    · simp (discharger := omega) only [↓w280_0, ↓w280_1, ↓w280_2, ↓w280_5, ↓w280_6, ↓w280_7, ↓w280_8, ↓w280_11, ↓w280_14, ↓w280_16, ↓w280_17, ↓w280_18, ↓w280_21, ↓w280_22, ↓w280_23, ↓w280_26, ↓w280_27, ↓w280_30, ↓w280_31, ↓w280_34, ↓w280_35, ↓w280_36, ↓w280_37, ↓w280_38, ↓w280_39, ↓w280_43, ↓w280_44, ↓w280_47, ↓w280_48, ↓w280_49, ↓w280_52, ↓w280_53, ↓w280_54, ↓w280_57, ↓w280_59, ↓w280_60, ↓w280_61, ↓w280_64, ↓w280_66, ↓w280_67, ↓w280_68, ↓w280_71, ↓w280_73, ↓w280_74, ↓w280_77, ↓w280_80, ↓w280_81, ↓w280_84, ↓w280_86, ↓w280_87, ↓w280_88, ↓w280_91, ↓w280_94, ↓w280_95, ↓w280_98, ↓w280_100, ↓w280_101, ↓w280_104, ↓w280_107, ↓w280_108, ↓w280_111, ↓w280_113, ↓w280_114, ↓w280_117, ↓w280_118, ↓w280_119, ↓w280_122, ↓w280_123, ↓w280_126, ↓w280_127, ↓w280_130, ↓w280_131, ↓w280_134, ↓w280_135, ↓w280_136, ↓w280_139, ↓w280_140, ↓w280_143, ↓w280_145, ↓m_ranInAll, ↓hbk, ↓kc_i, ↓kc_l, ↓kc_r, ↓kc_n, rc420, g420_0, p420_0, g420_1, p420_1, g420_2, g420_3, p420_3, g420_4, p420_4, g420_5, p420_5, g420_6, p420_6, g420_7, p420_7, g420_8, p420_8, g420_9, p420_9, g420_10, g420_11, g420_12, g420_13, g420_14, g420_15, g420_16, g420_17, g420_18, g420_19, p420_19, g420_20, g420_21, g420_22, g420_23, g420_24, g420_25, g420_26, g420_27, g420_28, g420_29, g420_30, g420_31, g420_32, p420_32, g420_33, g420_34, g420_35, g420_36, g420_37, g420_38, g420_39, g420_40, g420_41, g420_42, g420_43, g420_44, g420_45, g420_46, g420_47, p420_47, g420_48, g420_49, p420_49, gi443, si443, pm_eq, pm_ne, st_pm, st_pmne, rd1, rd2, rd3, rd4, rd5, rd6, rd2s, rd3s, rd4s, rd5s, rd7, rd8, rd9, rd10, rd11, rd0, rdc, wr1, wr2, wr3, wr4, wr5, wr6, wr2s, wr3s, wr4s, wr5s, wr7, wr8, wr9, wr10, wr11, wr0, wrc, st_ne, st_eq, st_st, hm, mul8, mul8', mul4, mul4', nI_add, inT, nclN, ltT, ltF, leT, leF, eqT, eqF, nzF, m1F, m1T, shr, shg, bI0, bI1, bo_bI, bo_1, bo_0, eq10, eq00, frT1, frT2, frT3, fit0, fit1, fit2, fit3, true_and, and_true, ↓reduceIte, Nat.reduceAdd, Nat.reduceMul, and_self, not_false_eq_true, not_true_eq_false, Nat.zero_add, Nat.add_zero]
    · simp (discharger := omega) only [↓w280_0, ↓w280_1, ↓w280_2, ↓w280_5, ↓w280_6, ↓w280_7, ↓w280_8, ↓w280_11, ↓w280_14, ↓w280_16, ↓w280_17, ↓w280_18, ↓w280_21, ↓w280_22, ↓w280_23, ↓w280_26, ↓w280_27, ↓w280_30, ↓w280_31, ↓w280_34, ↓w280_35, ↓w280_36, ↓w280_37, ↓w280_38, ↓w280_39, ↓w280_43, ↓w280_44, ↓w280_47, ↓w280_48, ↓w280_49, ↓w280_52, ↓w280_53, ↓w280_54, ↓w280_57, ↓w280_59, ↓w280_60, ↓w280_61, ↓w280_64, ↓w280_66, ↓w280_67, ↓w280_68, ↓w280_71, ↓w280_73, ↓w280_74, ↓w280_77, ↓w280_80, ↓w280_81, ↓w280_84, ↓w280_86, ↓w280_87, ↓w280_88, ↓w280_91, ↓w280_94, ↓w280_95, ↓w280_98, ↓w280_100, ↓w280_101, ↓w280_104, ↓w280_107, ↓w280_108, ↓w280_111, ↓w280_113, ↓w280_114, ↓w280_117, ↓w280_118, ↓w280_119, ↓w280_122, ↓w280_123, ↓w280_126, ↓w280_127, ↓w280_130, ↓w280_131, ↓w280_134, ↓w280_135, ↓w280_136, ↓w280_139, ↓w280_140, ↓w280_143, ↓w280_145, ↓m_ranInAll, ↓hbk, ↓kc_i, ↓kc_l, ↓kc_r, ↓kc_n, rc420, g420_0, p420_0, g420_1, p420_1, g420_2, g420_3, p420_3, g420_4, p420_4, g420_5, p420_5, g420_6, p420_6, g420_7, p420_7, g420_8, p420_8, g420_9, p420_9, g420_10, g420_11, g420_12, g420_13, g420_14, g420_15, g420_16, g420_17, g420_18, g420_19, p420_19, g420_20, g420_21, g420_22, g420_23, g420_24, g420_25, g420_26, g420_27, g420_28, g420_29, g420_30, g420_31, g420_32, p420_32, g420_33, g420_34, g420_35, g420_36, g420_37, g420_38, g420_39, g420_40, g420_41, g420_42, g420_43, g420_44, g420_45, g420_46, g420_47, p420_47, g420_48, g420_49, p420_49, gi443, si443, pm_eq, pm_ne, st_pm, st_pmne, rd1, rd2, rd3, rd4, rd5, rd6, rd2s, rd3s, rd4s, rd5s, rd7, rd8, rd9, rd10, rd11, rd0, rdc, wr1, wr2, wr3, wr4, wr5, wr6, wr2s, wr3s, wr4s, wr5s, wr7, wr8, wr9, wr10, wr11, wr0, wrc, st_ne, st_eq, st_st, hm, mul8, mul8', mul4, mul4', nI_add, inT, nclN, ltT, ltF, leT, leF, eqT, eqF, nzF, m1F, m1T, shr, shg, bI0, bI1, bo_bI, bo_1, bo_0, eq10, eq00, frT1, frT2, frT3, fit0, fit1, fit2, fit3, true_and, and_true, ↓reduceIte, Nat.reduceAdd, Nat.reduceMul, and_self, not_false_eq_true, not_true_eq_false, Nat.zero_add, Nat.add_zero]
  · rw [if_neg hy]
    have hin : inr y (nI 0) (nI 2) = false := by
      rw [Bool.eq_false_iff]
      intro q
      obtain ⟨j, hj, rfl⟩ := inr_of q (by omega)
      exact hy (isR_nI hj (by omega))
    refine ⟨st I 420 (upd (I 420) 0 (nI 0)), fun a h1 h2 => st_ne h1, st_eq, by rw [st_ne (by decide)]; exact hc, fun P => ?_⟩
    simp (discharger := omega) only [↓w280_0, ↓w280_1, ↓w280_2, ↓w280_5, ↓w280_6, ↓w280_7, ↓w280_8, ↓w280_11, ↓w280_14, ↓w280_16, ↓w280_17, ↓w280_18, ↓w280_21, ↓w280_22, ↓w280_23, ↓w280_26, ↓w280_27, ↓w280_30, ↓w280_31, ↓w280_34, ↓w280_35, ↓w280_36, ↓w280_37, ↓w280_38, ↓w280_39, ↓w280_43, ↓w280_44, ↓w280_47, ↓w280_48, ↓w280_49, ↓w280_52, ↓w280_53, ↓w280_54, ↓w280_57, ↓w280_59, ↓w280_60, ↓w280_61, ↓w280_64, ↓w280_66, ↓w280_67, ↓w280_68, ↓w280_71, ↓w280_73, ↓w280_74, ↓w280_77, ↓w280_80, ↓w280_81, ↓w280_84, ↓w280_86, ↓w280_87, ↓w280_88, ↓w280_91, ↓w280_94, ↓w280_95, ↓w280_98, ↓w280_100, ↓w280_101, ↓w280_104, ↓w280_107, ↓w280_108, ↓w280_111, ↓w280_113, ↓w280_114, ↓w280_117, ↓w280_118, ↓w280_119, ↓w280_122, ↓w280_123, ↓w280_126, ↓w280_127, ↓w280_130, ↓w280_131, ↓w280_134, ↓w280_135, ↓w280_136, ↓w280_139, ↓w280_140, ↓w280_143, ↓w280_145, ↓m_within, hin, bI_f, ↓kc_i, ↓kc_l, ↓kc_r, ↓kc_n, rc420, g420_0, p420_0, g420_1, p420_1, g420_2, g420_3, p420_3, g420_4, p420_4, g420_5, p420_5, g420_6, p420_6, g420_7, p420_7, g420_8, p420_8, g420_9, p420_9, g420_10, g420_11, g420_12, g420_13, g420_14, g420_15, g420_16, g420_17, g420_18, g420_19, p420_19, g420_20, g420_21, g420_22, g420_23, g420_24, g420_25, g420_26, g420_27, g420_28, g420_29, g420_30, g420_31, g420_32, p420_32, g420_33, g420_34, g420_35, g420_36, g420_37, g420_38, g420_39, g420_40, g420_41, g420_42, g420_43, g420_44, g420_45, g420_46, g420_47, p420_47, g420_48, g420_49, p420_49, pm_eq, pm_ne, st_pm, st_pmne, rd1, rd2, rd3, rd4, rd5, rd6, rd2s, rd3s, rd4s, rd5s, rd7, rd8, rd9, rd10, rd11, rd0, rdc, wr1, wr2, wr3, wr4, wr5, wr6, wr2s, wr3s, wr4s, wr5s, wr7, wr8, wr9, wr10, wr11, wr0, wrc, st_ne, st_eq, st_st, mul8, mul8', mul4, mul4', nI_add, inT, nclN, ltT, ltF, leT, leF, eqT, eqF, nzF, m1F, m1T, shr, shg, bI0, bI1, bo_bI, bo_1, bo_0, eq10, eq00, frT1, frT2, frT3, fit0, fit1, fit2, fit3, true_and, and_true, ↓reduceIte, Nat.reduceAdd, Nat.reduceMul, and_self, not_false_eq_true, not_true_eq_false, Nat.zero_add, Nat.add_zero]
end F2
