/-! THE MODEL's state: its row s is one V -/
def row (V : Vw) : Nat → Int32 := fun k => if k < 40 then V 1 k else if k < 80 then V 2 (k - 40) else if k < 120 then V 3 (k - 80) else if k < 160 then V 4 (k - 120) else if k < 200 then V 5 (k - 160) else if k < 240 then V 6 (k - 200) else if k < 245 then V 7 (k - 240) else if k < 265 then V 8 (k - 245) else if k < 273 then V 9 (k - 265) else if k < 281 then V 10 (k - 273) else if k < 289 then V 11 (k - 281) else if k < 291 then V 0 (k - 289) else nI 0
def pm (I : Mi) (V : Vw) : Mi := st I 451 (row V)
section ROW
variable {I : Mi} {V V' : Vw} {a c k r : Nat} {x : Int32} {f : Nat → Int32}
theorem pm_eq : pm I V 451 = row V := st_eq
theorem pm_ne (h : a ≠ 451) : pm I V a = I a := st_ne h
theorem st_pm : st (pm I V) 451 (row V') = pm I V' := st_st
theorem st_pmne (h : a ≠ 451) : st (pm I V) a f = pm (st I a f) V := st_cm (Ne.symm h)
theorem rd1 (h : k < 40) : row V k = V 1 k := if_pos h
theorem rd2s (h : k < 40) : row V (40 + k) = V 2 k := by unfold row; simp (discharger := omega) only [if_neg, if_pos]; exact congrArg _ (by omega)
theorem rd3s (h : k < 40) : row V (80 + k) = V 3 k := by unfold row; simp (discharger := omega) only [if_neg, if_pos]; exact congrArg _ (by omega)
theorem rd4s (h : k < 40) : row V (120 + k) = V 4 k := by unfold row; simp (discharger := omega) only [if_neg, if_pos]; exact congrArg _ (by omega)
theorem rd5s (h : k < 40) : row V (160 + k) = V 5 k := by unfold row; simp (discharger := omega) only [if_neg, if_pos]; exact congrArg _ (by omega)
theorem rd6s (h : k < 40) : row V (200 + k) = V 6 k := by unfold row; simp (discharger := omega) only [if_neg, if_pos]; exact congrArg _ (by omega)
theorem rd2 (h : a + c < 40) : row V (40 + a + c) = V 2 (a + c) := by rw [Nat.add_assoc]; exact rd2s h
theorem rd3 (h : a + c < 40) : row V (80 + a + c) = V 3 (a + c) := by rw [Nat.add_assoc]; exact rd3s h
theorem rd4 (h : a + c < 40) : row V (120 + a + c) = V 4 (a + c) := by rw [Nat.add_assoc]; exact rd4s h
theorem rd5 (h : a + c < 40) : row V (160 + a + c) = V 5 (a + c) := by rw [Nat.add_assoc]; exact rd5s h
theorem rd6 (h : a + c < 40) : row V (200 + a + c) = V 6 (a + c) := by rw [Nat.add_assoc]; exact rd6s h
theorem rd7 (h : r < 5) : row V (240 + r) = V 7 r := by unfold row; simp (discharger := omega) only [if_neg, if_pos]; exact congrArg _ (by omega)
theorem rd8s (h : k < 20) : row V (245 + k) = V 8 k := by unfold row; simp (discharger := omega) only [if_neg, if_pos]; exact congrArg _ (by omega)
theorem rd8 (h : a + c < 20) : row V (245 + a + c) = V 8 (a + c) := by rw [Nat.add_assoc]; exact rd8s h
theorem rd9 (h : c < 8) : row V (265 + c) = V 9 c := by unfold row; simp (discharger := omega) only [if_neg, if_pos]; exact congrArg _ (by omega)
theorem rd10 (h : c < 8) : row V (273 + c) = V 10 c := by unfold row; simp (discharger := omega) only [if_neg, if_pos]; exact congrArg _ (by omega)
theorem rd11 (h : c < 8) : row V (281 + c) = V 11 c := by unfold row; simp (discharger := omega) only [if_neg, if_pos]; exact congrArg _ (by omega)
theorem rd0 : row V 289 = V 0 0 := rfl
theorem rdc : row V 290 = V 0 1 := rfl
/-- which row of a State, and how far in it, the place k of s is -/
theorem row_cg (h : ∀ j k, j < 12 → k < szS j → V j k = V' j k) : row V = row V' := by
  funext k; unfold row
  by_cases h1 : k < 40
  · rw [if_pos h1, if_pos h1]; exact h 1 _ (by decide) h1
  rw [if_neg h1, if_neg h1]
  by_cases h2 : k < 80
  · rw [if_pos h2, if_pos h2]; exact h 2 _ (by decide) (show k - 40 < 40 by omega)
  rw [if_neg h2, if_neg h2]
  by_cases h3 : k < 120
  · rw [if_pos h3, if_pos h3]; exact h 3 _ (by decide) (show k - 80 < 40 by omega)
  rw [if_neg h3, if_neg h3]
  by_cases h4 : k < 160
  · rw [if_pos h4, if_pos h4]; exact h 4 _ (by decide) (show k - 120 < 40 by omega)
  rw [if_neg h4, if_neg h4]
  by_cases h5 : k < 200
  · rw [if_pos h5, if_pos h5]; exact h 5 _ (by decide) (show k - 160 < 40 by omega)
  rw [if_neg h5, if_neg h5]
  by_cases h6 : k < 240
  · rw [if_pos h6, if_pos h6]; exact h 6 _ (by decide) (show k - 200 < 40 by omega)
  rw [if_neg h6, if_neg h6]
  by_cases h7 : k < 245
  · rw [if_pos h7, if_pos h7]; exact h 7 _ (by decide) (show k - 240 < 5 by omega)
  rw [if_neg h7, if_neg h7]
  by_cases h8 : k < 265
  · rw [if_pos h8, if_pos h8]; exact h 8 _ (by decide) (show k - 245 < 20 by omega)
  rw [if_neg h8, if_neg h8]
  by_cases h9 : k < 273
  · rw [if_pos h9, if_pos h9]; exact h 9 _ (by decide) (show k - 265 < 8 by omega)
  rw [if_neg h9, if_neg h9]
  by_cases h10 : k < 281
  · rw [if_pos h10, if_pos h10]; exact h 10 _ (by decide) (show k - 273 < 8 by omega)
  rw [if_neg h10, if_neg h10]
  by_cases h11 : k < 289
  · rw [if_pos h11, if_pos h11]; exact h 11 _ (by decide) (show k - 281 < 8 by omega)
  rw [if_neg h11, if_neg h11]
  by_cases h12 : k < 291
  · rw [if_pos h12, if_pos h12]; exact h 0 _ (by decide) (show k - 289 < 2 by omega)
  rw [if_neg h12, if_neg h12]
def ofs (j : Nat) : Nat := match j with
  | 0 => 289
  | 1 => 0
  | 2 => 40
  | 3 => 80
  | 4 => 120
  | 5 => 160
  | 6 => 200
  | 7 => 240
  | 8 => 245
  | 9 => 265
  | 10 => 273
  | _ => 281
theorem row_of {j : Nat} (hj : j < 12) (hk : k < szS j) : row V (ofs j + k) = V j k := by
  have hj' : j = 0 ∨ j = 1 ∨ j = 2 ∨ j = 3 ∨ j = 4 ∨ j = 5 ∨ j = 6 ∨ j = 7 ∨ j = 8 ∨ j = 9 ∨ j = 10 ∨ j = 11 := by omega
  rcases hj' with rfl | rfl | rfl | rfl | rfl | rfl | rfl | rfl | rfl | rfl | rfl | rfl
  · have hk : k < 2 := hk
    show row V (289 + k) = _
    unfold row; simp (discharger := omega) only [if_neg, if_pos]; exact congrArg _ (by omega)
  · show row V (0 + k) = _
    rw [Nat.zero_add]; exact rd1 hk
  · exact rd2s hk
  · exact rd3s hk
  · exact rd4s hk
  · exact rd5s hk
  · exact rd6s hk
  · exact rd7 hk
  · exact rd8s hk
  · exact rd9 hk
  · exact rd10 hk
  · exact rd11 hk
theorem ofs_of {k : Nat} (h : k < 291) : ∃ j i, j < 12 ∧ i < szS j ∧ k = ofs j + i := by
  by_cases h1 : k < 40
  · exact ⟨1, k, by decide, h1, by show k = 0 + k; omega⟩
  by_cases h2 : k < 80
  · exact ⟨2, k - 40, by decide, (show k - 40 < 40 by omega), (show k = 40 + (k - 40) by omega)⟩
  by_cases h3 : k < 120
  · exact ⟨3, k - 80, by decide, (show k - 80 < 40 by omega), (show k = 80 + (k - 80) by omega)⟩
  by_cases h4 : k < 160
  · exact ⟨4, k - 120, by decide, (show k - 120 < 40 by omega), (show k = 120 + (k - 120) by omega)⟩
  by_cases h5 : k < 200
  · exact ⟨5, k - 160, by decide, (show k - 160 < 40 by omega), (show k = 160 + (k - 160) by omega)⟩
  by_cases h6 : k < 240
  · exact ⟨6, k - 200, by decide, (show k - 200 < 40 by omega), (show k = 200 + (k - 200) by omega)⟩
  by_cases h7 : k < 245
  · exact ⟨7, k - 240, by decide, (show k - 240 < 5 by omega), (show k = 240 + (k - 240) by omega)⟩
  by_cases h8 : k < 265
  · exact ⟨8, k - 245, by decide, (show k - 245 < 20 by omega), (show k = 245 + (k - 245) by omega)⟩
  by_cases h9 : k < 273
  · exact ⟨9, k - 265, by decide, (show k - 265 < 8 by omega), (show k = 265 + (k - 265) by omega)⟩
  by_cases h10 : k < 281
  · exact ⟨10, k - 273, by decide, (show k - 273 < 8 by omega), (show k = 273 + (k - 273) by omega)⟩
  by_cases h11 : k < 289
  · exact ⟨11, k - 281, by decide, (show k - 281 < 8 by omega), (show k = 281 + (k - 281) by omega)⟩
  · exact ⟨0, k - 289, by decide, (show k - 289 < 2 by omega), (show k = 289 + (k - 289) by omega)⟩
theorem row_ge (h : 291 ≤ k) : row V k = nI 0 := by unfold row; simp (discharger := omega) only [if_neg]
theorem ofs_inj {j j' i i' : Nat} (hj : j < 12) (hj' : j' < 12) (hi : i < szS j) (hi' : i' < szS j') (h : ofs j + i = ofs j' + i') : j = j' ∧ i = i' := by
  have key : ∀ j, j < 12 → ∀ j', j' < 12 → ofs j < ofs j' + szS j' → ofs j' < ofs j + szS j → j = j' := by decide
  have := key j hj j' hj' (by omega) (by omega)
  subst this
  exact ⟨rfl, by omega⟩
theorem wrA {j : Nat} (hj : j < 12) (hk : k < szS j) : upd (row V) (ofs j + k) x = row (st V j (upd (V j) k x)) := by
  funext q
  by_cases hq : q < 291
  · obtain ⟨j', i, hj', hi, rfl⟩ := ofs_of hq
    rw [row_of hj' hi]
    by_cases he : j' = j
    · subst he
      rw [st_eq]
      by_cases hik : i = k
      · subst hik; rw [upd_eq, upd_eq]
      · rw [upd_ne (by omega), upd_ne hik, row_of hj' hi]
    · rw [st_ne he, upd_ne (fun z => he (ofs_inj hj' hj hi hk z).1), row_of hj' hi]
  · have hl : ∀ j, j < 12 → ofs j + szS j ≤ 291 := by decide
    have := hl j hj
    rw [upd_ne (by omega), row_ge (by omega), row_ge (by omega)]
theorem wr1 (h : k < 40) : upd (row V) k x = row (st V 1 (upd (V 1) k x)) := by
  have := wrA (V := V) (x := x) (j := 1) (k := k) (by decide) h
  rw [← this]; show _ = upd (row V) (0 + k) x; rw [Nat.zero_add]
theorem wr2s (h : k < 40) : upd (row V) (40 + k) x = row (st V 2 (upd (V 2) k x)) := wrA (j := 2) (by decide) h
theorem wr3s (h : k < 40) : upd (row V) (80 + k) x = row (st V 3 (upd (V 3) k x)) := wrA (j := 3) (by decide) h
theorem wr4s (h : k < 40) : upd (row V) (120 + k) x = row (st V 4 (upd (V 4) k x)) := wrA (j := 4) (by decide) h
theorem wr5s (h : k < 40) : upd (row V) (160 + k) x = row (st V 5 (upd (V 5) k x)) := wrA (j := 5) (by decide) h
theorem wr6s (h : k < 40) : upd (row V) (200 + k) x = row (st V 6 (upd (V 6) k x)) := wrA (j := 6) (by decide) h
theorem wr2 (h : a + c < 40) : upd (row V) (40 + a + c) x = row (st V 2 (upd (V 2) (a + c) x)) := by rw [Nat.add_assoc]; exact wr2s h
theorem wr3 (h : a + c < 40) : upd (row V) (80 + a + c) x = row (st V 3 (upd (V 3) (a + c) x)) := by rw [Nat.add_assoc]; exact wr3s h
theorem wr4 (h : a + c < 40) : upd (row V) (120 + a + c) x = row (st V 4 (upd (V 4) (a + c) x)) := by rw [Nat.add_assoc]; exact wr4s h
theorem wr5 (h : a + c < 40) : upd (row V) (160 + a + c) x = row (st V 5 (upd (V 5) (a + c) x)) := by rw [Nat.add_assoc]; exact wr5s h
theorem wr6 (h : a + c < 40) : upd (row V) (200 + a + c) x = row (st V 6 (upd (V 6) (a + c) x)) := by rw [Nat.add_assoc]; exact wr6s h
theorem wr7 (h : r < 5) : upd (row V) (240 + r) x = row (st V 7 (upd (V 7) r x)) := wrA (j := 7) (by decide) h
theorem wr8s (h : k < 20) : upd (row V) (245 + k) x = row (st V 8 (upd (V 8) k x)) := wrA (j := 8) (by decide) h
theorem wr8 (h : a + c < 20) : upd (row V) (245 + a + c) x = row (st V 8 (upd (V 8) (a + c) x)) := by rw [Nat.add_assoc]; exact wr8s h
theorem wr9 (h : c < 8) : upd (row V) (265 + c) x = row (st V 9 (upd (V 9) c x)) := wrA (j := 9) (by decide) h
theorem wr10 (h : c < 8) : upd (row V) (273 + c) x = row (st V 10 (upd (V 10) c x)) := wrA (j := 10) (by decide) h
theorem wr11 (h : c < 8) : upd (row V) (281 + c) x = row (st V 11 (upd (V 11) c x)) := wrA (j := 11) (by decide) h
theorem wr0 : upd (row V) 289 x = row (st V 0 (upd (V 0) 0 x)) := wrA (j := 0) (k := 0) (by decide) (by decide)
theorem wrc : upd (row V) 290 x = row (st V 0 (upd (V 0) 1 x)) := wrA (j := 0) (k := 1) (by decide) (by decide)
end ROW
section M1
variable {L : Nat} {xs : Nat → Int32} {d : Nat} {P : Option Value → Hp → Prop} {I : Mi} {J : Mj} {R : Mr} {Z : Mz} {r c k l N M o : Nat} {x y z : Int32} {V : Vw} {h : Hp}
theorem m_within : Wp L xs d 173 0 [some (.int (x)), some (.int (y)), some (.int (z))] [] h P = P (some (.int (bI (inr x y z)))) h := by
  simp (discharger := omega) only [↓w173_0, ↓w173_1, ↓w173_2, ↓w173_5, ↓w173_6, ↓w173_7, ↓w173_10, ↓w173_11, ↓w173_14, ↓w173_15, mul8, mul8', mul4, mul4', nI_add, inT, nclN, ltT, ltF, leT, leF, eqT, eqF, nzF, m1F, m1T, shr, shg, bI0, bI1, bo_bI, bo_1, bo_0, eq10, eq00, frT1, frT2, frT3, fit0, fit1, fit2, fit3, true_and, and_true, ↓reduceIte, Nat.reduceAdd, Nat.reduceMul, and_self, not_false_eq_true, not_true_eq_false, Nat.zero_add, Nat.add_zero]
  unfold inr
  by_cases h1 : x < y
  · simp [h1, bI, bo_0]
  · by_cases h2 : z < x
    · simp [h1, h2, bI, bo_0]
    · simp [h1, h2, bI, bo_1]
theorem m_isIn (hk : k < 32) : Wp L xs d 175 0 [some (.int (x)), some (.int (nI k))] [] h P = P (some (.int (bI (tb x k)))) h := by
  simp (discharger := omega) only [↓w175_0, ↓w175_1, ↓w175_2, ↓w175_3, ↓w175_4, ↓w175_5, ↓w175_6, ↓w175_9, ↓w175_10, ↓w175_13, ↓w175_14, mul8, mul8', mul4, mul4', nI_add, inT, nclN, ltT, ltF, leT, leF, eqT, eqF, nzF, m1F, m1T, shr, shg, bI0, bI1, bo_bI, bo_1, bo_0, eq10, eq00, frT1, frT2, frT3, fit0, fit1, fit2, fit3, true_and, and_true, ↓reduceIte, Nat.reduceAdd, Nat.reduceMul, and_self, not_false_eq_true, not_true_eq_false, Nat.zero_add, Nat.add_zero]
  cases tb x k <;> simp [bI, bo_0, bo_1]
theorem m_bits : Wp L xs d 174 0 [some (.int (x)), none, none] [] h P = P (some (.int (nI (pcn x)))) h := by
  simp (discharger := omega) only [↓w174_0, ↓w174_1, ↓w174_2, ↓w174_3, ↓w174_5, ↓w174_7, ↓w174_10, ↓w174_11, ↓w174_12, ↓w174_13, ↓w174_14, ↓w174_15, ↓w174_16, ↓w174_17, ↓w174_18, ↓w174_21, ↓w174_24, ↓w174_25, mul8, mul8', mul4, mul4', nI_add, inT, nclN, ltT, ltF, leT, leF, eqT, eqF, nzF, m1F, m1T, shr, shg, bI0, bI1, bo_bI, bo_1, bo_0, eq10, eq00, frT1, frT2, frT3, fit0, fit1, fit2, fit3, true_and, and_true, ↓reduceIte, Nat.reduceAdd, Nat.reduceMul, and_self, not_false_eq_true, not_true_eq_false, Nat.zero_add, Nat.add_zero]
  refine lp_to (F := fun i (a : Nat) => Wp L xs d 174 4 [some (.int (x)), some (.int (nI a)), some (.int (nI i))] [] h P) (B := fun i a => if tb x i = true then a + 1 else a) 8 0 ?_ ?_
  · intro i a hi
    refine w174_4.trans ?_
    simp (discharger := omega) only [↓w174_0, ↓w174_1, ↓w174_2, ↓w174_3, ↓w174_5, ↓w174_7, ↓w174_10, ↓w174_11, ↓w174_12, ↓w174_13, ↓w174_14, ↓w174_15, ↓w174_16, ↓w174_17, ↓w174_18, ↓w174_21, ↓w174_24, ↓w174_25, mul8, mul8', mul4, mul4', nI_add, inT, nclN, ltT, ltF, leT, leF, eqT, eqF, nzF, m1F, m1T, shr, shg, bI0, bI1, bo_bI, bo_1, bo_0, eq10, eq00, frT1, frT2, frT3, fit0, fit1, fit2, fit3, true_and, and_true, ↓reduceIte, Nat.reduceAdd, Nat.reduceMul, and_self, not_false_eq_true, not_true_eq_false, Nat.zero_add, Nat.add_zero]
    cases tb x i
    · simp [bI, nI_add]
    · simp [bI, nI_add]
  · refine w174_4.trans ?_
    simp (discharger := omega) only [↓w174_0, ↓w174_1, ↓w174_2, ↓w174_3, ↓w174_5, ↓w174_7, ↓w174_10, ↓w174_11, ↓w174_12, ↓w174_13, ↓w174_14, ↓w174_15, ↓w174_16, ↓w174_17, ↓w174_18, ↓w174_21, ↓w174_24, ↓w174_25, mul8, mul8', mul4, mul4', nI_add, inT, nclN, ltT, ltF, leT, leF, eqT, eqF, nzF, m1F, m1T, shr, shg, bI0, bI1, bo_bI, bo_1, bo_0, eq10, eq00, frT1, frT2, frT3, fit0, fit1, fit2, fit3, true_and, and_true, ↓reduceIte, Nat.reduceAdd, Nat.reduceMul, and_self, not_false_eq_true, not_true_eq_false, Nat.zero_add, Nat.add_zero]
    rfl
theorem m_most (hN : I 422 0 = nI N) (h5 : N ≤ 5) : Wp L xs d 214 0 [some (.ref (420))] [] (mk I J R Z) P = P (some (.int (nI (mst N)))) (mk I J R Z) := by
  simp (discharger := omega) only [↓w214_0, ↓w214_1, ↓w214_4, ↓w214_5, ↓w214_6, ↓w214_7, ↓w214_8, ↓w214_9, ↓w214_10, rc420, g420_0, p420_0, g420_1, p420_1, g420_2, g420_3, p420_3, g420_4, p420_4, g420_5, p420_5, g420_6, p420_6, g420_7, p420_7, g420_8, p420_8, g420_9, p420_9, g420_10, g420_11, g420_12, g420_13, g420_14, g420_15, g420_16, g420_17, g420_18, g420_19, p420_19, g420_20, g420_21, g420_22, g420_23, g420_24, g420_25, g420_26, g420_27, g420_28, g420_29, g420_30, g420_31, g420_32, p420_32, g420_33, g420_34, g420_35, g420_36, g420_37, g420_38, g420_39, g420_40, g420_41, g420_42, g420_43, g420_44, g420_45, g420_46, g420_47, p420_47, g420_48, g420_49, p420_49, gi422, si422, hN, mul8, mul8', mul4, mul4', nI_add, inT, nclN, ltT, ltF, leT, leF, eqT, eqF, nzF, m1F, m1T, shr, shg, bI0, bI1, bo_bI, bo_1, bo_0, eq10, eq00, frT1, frT2, frT3, fit0, fit1, fit2, fit3, true_and, and_true, ↓reduceIte, Nat.reduceAdd, Nat.reduceMul, and_self, not_false_eq_true, not_true_eq_false, Nat.zero_add, Nat.add_zero, pk_div, mst]
theorem m_fast (hN : I 422 0 = nI N) (h5 : N ≤ 5) : Wp L xs d 215 0 [some (.ref (420))] [] (mk I J R Z) P = P (some (.int (nI (fst5 N)))) (mk I J R Z) := by
  simp (discharger := omega) only [↓w215_0, ↓w215_1, ↓w215_4, ↓w215_5, ↓w215_6, ↓w215_7, ↓w215_10, ↓w215_11, ↓w215_14, ↓w215_15, rc420, g420_0, p420_0, g420_1, p420_1, g420_2, g420_3, p420_3, g420_4, p420_4, g420_5, p420_5, g420_6, p420_6, g420_7, p420_7, g420_8, p420_8, g420_9, p420_9, g420_10, g420_11, g420_12, g420_13, g420_14, g420_15, g420_16, g420_17, g420_18, g420_19, p420_19, g420_20, g420_21, g420_22, g420_23, g420_24, g420_25, g420_26, g420_27, g420_28, g420_29, g420_30, g420_31, g420_32, p420_32, g420_33, g420_34, g420_35, g420_36, g420_37, g420_38, g420_39, g420_40, g420_41, g420_42, g420_43, g420_44, g420_45, g420_46, g420_47, p420_47, g420_48, g420_49, p420_49, gi422, si422, hN, mul8, mul8', mul4, mul4', nI_add, inT, nclN, ltT, ltF, leT, leF, eqT, eqF, nzF, m1F, m1T, shr, shg, bI0, bI1, bo_bI, bo_1, bo_0, eq10, eq00, frT1, frT2, frT3, fit0, fit1, fit2, fit3, true_and, and_true, ↓reduceIte, Nat.reduceAdd, Nat.reduceMul, and_self, not_false_eq_true, not_true_eq_false, Nat.zero_add, Nat.add_zero]
  unfold fst5
  by_cases h : N = 5
  · subst h; simp
  · rw [if_neg (fun z => h ((nI_eq (by omega) (by omega)).mp z)), if_neg h]
theorem m_isUp (hr : r < 32) : Wp L xs (d+1) 216 0 [some (.ref (420)), some (.int (nI r))] [] (mk (pm I V) J R Z) P = P (some (.int (bI (tb (V 0 0) r)))) (mk (pm I V) J R Z) := by
  simp (discharger := omega) only [↓w216_0, ↓w216_1, ↓w216_4, ↓w216_7, ↓w216_8, ↓w216_9, ↓w216_12, ↓m_isIn, ↓kc_i, ↓kc_l, ↓kc_r, ↓kc_n, rc420, g420_0, p420_0, g420_1, p420_1, g420_2, g420_3, p420_3, g420_4, p420_4, g420_5, p420_5, g420_6, p420_6, g420_7, p420_7, g420_8, p420_8, g420_9, p420_9, g420_10, g420_11, g420_12, g420_13, g420_14, g420_15, g420_16, g420_17, g420_18, g420_19, p420_19, g420_20, g420_21, g420_22, g420_23, g420_24, g420_25, g420_26, g420_27, g420_28, g420_29, g420_30, g420_31, g420_32, p420_32, g420_33, g420_34, g420_35, g420_36, g420_37, g420_38, g420_39, g420_40, g420_41, g420_42, g420_43, g420_44, g420_45, g420_46, g420_47, p420_47, g420_48, g420_49, p420_49, gi451, si451, pm_eq, pm_ne, st_pm, st_pmne, rd1, rd2, rd3, rd4, rd5, rd6, rd2s, rd3s, rd4s, rd5s, rd7, rd8, rd9, rd10, rd11, rd0, rdc, wr1, wr2, wr3, wr4, wr5, wr6, wr2s, wr3s, wr4s, wr5s, wr7, wr8, wr9, wr10, wr11, wr0, wrc, st_ne, st_eq, st_st, mul8, mul8', mul4, mul4', nI_add, inT, nclN, ltT, ltF, leT, leF, eqT, eqF, nzF, m1F, m1T, shr, shg, bI0, bI1, bo_bI, bo_1, bo_0, eq10, eq00, frT1, frT2, frT3, fit0, fit1, fit2, fit3, true_and, and_true, ↓reduceIte, Nat.reduceAdd, Nat.reduceMul, and_self, not_false_eq_true, not_true_eq_false, Nat.zero_add, Nat.add_zero]
theorem m_statusAt (hq : 8 * r + c < 40) : Wp L xs d 217 0 [some (.ref (420)), some (.int (nI r)), some (.int (nI c))] [] (mk (pm I V) J R Z) P = P (some (.int (V 1 (8 * r + c)))) (mk (pm I V) J R Z) := by
  simp (discharger := omega) only [↓w217_0, ↓w217_1, ↓w217_4, ↓w217_6, ↓w217_7, ↓w217_8, ↓w217_9, ↓w217_10, ↓w217_11, rc420, g420_0, p420_0, g420_1, p420_1, g420_2, g420_3, p420_3, g420_4, p420_4, g420_5, p420_5, g420_6, p420_6, g420_7, p420_7, g420_8, p420_8, g420_9, p420_9, g420_10, g420_11, g420_12, g420_13, g420_14, g420_15, g420_16, g420_17, g420_18, g420_19, p420_19, g420_20, g420_21, g420_22, g420_23, g420_24, g420_25, g420_26, g420_27, g420_28, g420_29, g420_30, g420_31, g420_32, p420_32, g420_33, g420_34, g420_35, g420_36, g420_37, g420_38, g420_39, g420_40, g420_41, g420_42, g420_43, g420_44, g420_45, g420_46, g420_47, p420_47, g420_48, g420_49, p420_49, gi451, si451, pm_eq, pm_ne, st_pm, st_pmne, rd1, rd2, rd3, rd4, rd5, rd6, rd2s, rd3s, rd4s, rd5s, rd7, rd8, rd9, rd10, rd11, rd0, rdc, wr1, wr2, wr3, wr4, wr5, wr6, wr2s, wr3s, wr4s, wr5s, wr7, wr8, wr9, wr10, wr11, wr0, wrc, st_ne, st_eq, st_st, mul8, mul8', mul4, mul4', nI_add, inT, nclN, ltT, ltF, leT, leF, eqT, eqF, nzF, m1F, m1T, shr, shg, bI0, bI1, bo_bI, bo_1, bo_0, eq10, eq00, frT1, frT2, frT3, fit0, fit1, fit2, fit3, true_and, and_true, ↓reduceIte, Nat.reduceAdd, Nat.reduceMul, and_self, not_false_eq_true, not_true_eq_false, Nat.zero_add, Nat.add_zero]
def mmet (M : Nat) (cl f1 : Nat → Int32) (cn : Int32) (r c : Nat) : Int32 := bm M fun o => tb (cl c) o && (decide (nI 0 < f1 (8 * r + o)) && !tb cn o)
theorem or_i0 {a : Int32} : a ||| nI 0 = a := or_0
theorem m_meets (hr : r < 5) (hc : c < 8) (hM : I 422 2 = nI M) (h8 : M ≤ 8) : Wp L xs (d+1) 218 0 [some (.ref (420)), some (.int (nI r)), some (.int (nI c)), none, none] [] (mk (pm I V) J R Z) P = P (some (.int (mmet M (I 457) (V 1) (V 0 1) r c))) (mk (pm I V) J R Z) := by
  simp (discharger := omega) only [↓w218_0, ↓w218_1, ↓w218_2, ↓w218_3, ↓w218_7, ↓w218_8, ↓w218_11, ↓w218_12, ↓w218_13, ↓w218_16, ↓w218_17, ↓w218_18, ↓w218_21, ↓w218_22, ↓w218_23, ↓w218_25, ↓w218_28, ↓w218_31, ↓w218_32, ↓w218_33, ↓w218_35, ↓w218_38, ↓w218_41, ↓w218_42, ↓w218_45, ↓w218_48, ↓w218_49, ↓w218_51, ↓w218_54, ↓w218_57, ↓w218_58, ↓w218_60, ↓w218_61, ↓w218_64, ↓w218_65, ↓w218_66, ↓w218_67, ↓w218_70, ↓w218_73, ↓w218_74, mul8, mul8', mul4, mul4', nI_add, inT, nclN, ltT, ltF, leT, leF, eqT, eqF, nzF, m1F, m1T, shr, shg, bI0, bI1, bo_bI, bo_1, bo_0, eq10, eq00, frT1, frT2, frT3, fit0, fit1, fit2, fit3, true_and, and_true, ↓reduceIte, Nat.reduceAdd, Nat.reduceMul, and_self, not_false_eq_true, not_true_eq_false, Nat.zero_add, Nat.add_zero]
  refine lp_any (T := Unit) (F := fun i acc _ => Wp L xs (d+1) 218 5 [some (.ref (420)), some (.int (nI r)), some (.int (nI c)), some (.int (acc)), some (.int (nI i))] [] (mk (pm I V) J R Z) P) (G := fun x => P (some (.int x)) (mk (pm I V) J R Z)) M ?_ ?_ (nI 0) ()
  · intro i acc t hi
    refine ⟨(), w218_5.trans ?_⟩
    simp (discharger := omega) only [↓w218_0, ↓w218_1, ↓w218_2, ↓w218_3, ↓w218_7, ↓w218_8, ↓w218_11, ↓w218_12, ↓w218_13, ↓w218_16, ↓w218_17, ↓w218_18, ↓w218_21, ↓w218_22, ↓w218_23, ↓w218_25, ↓w218_28, ↓w218_31, ↓w218_32, ↓w218_33, ↓w218_35, ↓w218_38, ↓w218_41, ↓w218_42, ↓w218_45, ↓w218_48, ↓w218_49, ↓w218_51, ↓w218_54, ↓w218_57, ↓w218_58, ↓w218_60, ↓w218_61, ↓w218_64, ↓w218_65, ↓w218_66, ↓w218_67, ↓w218_70, ↓w218_73, ↓w218_74, ↓m_isIn, ↓m_statusAt, ↓kc_i, ↓kc_l, ↓kc_r, ↓kc_n, rc420, g420_0, p420_0, g420_1, p420_1, g420_2, g420_3, p420_3, g420_4, p420_4, g420_5, p420_5, g420_6, p420_6, g420_7, p420_7, g420_8, p420_8, g420_9, p420_9, g420_10, g420_11, g420_12, g420_13, g420_14, g420_15, g420_16, g420_17, g420_18, g420_19, p420_19, g420_20, g420_21, g420_22, g420_23, g420_24, g420_25, g420_26, g420_27, g420_28, g420_29, g420_30, g420_31, g420_32, p420_32, g420_33, g420_34, g420_35, g420_36, g420_37, g420_38, g420_39, g420_40, g420_41, g420_42, g420_43, g420_44, g420_45, g420_46, g420_47, p420_47, g420_48, g420_49, p420_49, gi451, si451, gi422, si422, gi457, si457, pm_eq, pm_ne, st_pm, st_pmne, rd1, rd2, rd3, rd4, rd5, rd6, rd2s, rd3s, rd4s, rd5s, rd7, rd8, rd9, rd10, rd11, rd0, rdc, wr1, wr2, wr3, wr4, wr5, wr6, wr2s, wr3s, wr4s, wr5s, wr7, wr8, wr9, wr10, wr11, wr0, wrc, st_ne, st_eq, st_st, hM, mul8, mul8', mul4, mul4', nI_add, inT, nclN, ltT, ltF, leT, leF, eqT, eqF, nzF, m1F, m1T, shr, shg, bI0, bI1, bo_bI, bo_1, bo_0, eq10, eq00, frT1, frT2, frT3, fit0, fit1, fit2, fit3, true_and, and_true, ↓reduceIte, Nat.reduceAdd, Nat.reduceMul, and_self, not_false_eq_true, not_true_eq_false, Nat.zero_add, Nat.add_zero]
    by_cases h0 : tb (I 457 c) i = true
    · by_cases h1 : nI 0 < V 1 (8 * r + i)
      · by_cases h2 : tb (V 0 1) i = true
        · simp [h0, h1, h2, or_i0, Int32.not_le.mpr h1]
        · simp [h0, h1, h2, or_i0, Int32.not_le.mpr h1]
      · simp [h0, h1, or_i0, Int32.not_lt.mp h1]
    · simp [h0, or_i0]
  · intro acc t
    refine w218_5.trans ?_
    simp (discharger := omega) only [↓w218_0, ↓w218_1, ↓w218_2, ↓w218_3, ↓w218_7, ↓w218_8, ↓w218_11, ↓w218_12, ↓w218_13, ↓w218_16, ↓w218_17, ↓w218_18, ↓w218_21, ↓w218_22, ↓w218_23, ↓w218_25, ↓w218_28, ↓w218_31, ↓w218_32, ↓w218_33, ↓w218_35, ↓w218_38, ↓w218_41, ↓w218_42, ↓w218_45, ↓w218_48, ↓w218_49, ↓w218_51, ↓w218_54, ↓w218_57, ↓w218_58, ↓w218_60, ↓w218_61, ↓w218_64, ↓w218_65, ↓w218_66, ↓w218_67, ↓w218_70, ↓w218_73, ↓w218_74, rc420, g420_0, p420_0, g420_1, p420_1, g420_2, g420_3, p420_3, g420_4, p420_4, g420_5, p420_5, g420_6, p420_6, g420_7, p420_7, g420_8, p420_8, g420_9, p420_9, g420_10, g420_11, g420_12, g420_13, g420_14, g420_15, g420_16, g420_17, g420_18, g420_19, p420_19, g420_20, g420_21, g420_22, g420_23, g420_24, g420_25, g420_26, g420_27, g420_28, g420_29, g420_30, g420_31, g420_32, p420_32, g420_33, g420_34, g420_35, g420_36, g420_37, g420_38, g420_39, g420_40, g420_41, g420_42, g420_43, g420_44, g420_45, g420_46, g420_47, p420_47, g420_48, g420_49, p420_49, gi422, si422, pm_eq, pm_ne, st_pm, st_pmne, rd1, rd2, rd3, rd4, rd5, rd6, rd2s, rd3s, rd4s, rd5s, rd7, rd8, rd9, rd10, rd11, rd0, rdc, wr1, wr2, wr3, wr4, wr5, wr6, wr2s, wr3s, wr4s, wr5s, wr7, wr8, wr9, wr10, wr11, wr0, wrc, st_ne, st_eq, st_st, hM, mul8, mul8', mul4, mul4', nI_add, inT, nclN, ltT, ltF, leT, leF, eqT, eqF, nzF, m1F, m1T, shr, shg, bI0, bI1, bo_bI, bo_1, bo_0, eq10, eq00, frT1, frT2, frT3, fit0, fit1, fit2, fit3, true_and, and_true, ↓reduceIte, Nat.reduceAdd, Nat.reduceMul, and_self, not_false_eq_true, not_true_eq_false, Nat.zero_add, Nat.add_zero]
theorem m_behind (hr : r < 5) (hc : c < 8) (hM : I 422 2 = nI M) (h8 : M ≤ 8) : Wp L xs (d+2) 219 0 [some (.ref (420)), some (.int (nI r)), some (.int (nI c)), none, none, none] [] (mk (pm I V) J R Z) P = P (some (.int (bhd (V 3) 8 r (mmet M (I 457) (V 1) (V 0 1) r c)))) (mk (pm I V) J R Z) := by
  simp (discharger := omega) only [↓w219_0, ↓w219_1, ↓w219_2, ↓w219_3, ↓w219_6, ↓w219_7, ↓w219_8, ↓w219_10, ↓w219_11, ↓w219_15, ↓w219_17, ↓w219_20, ↓w219_21, ↓w219_23, ↓w219_26, ↓w219_29, ↓w219_31, ↓w219_32, ↓w219_35, ↓w219_37, ↓w219_39, ↓w219_40, ↓w219_41, ↓w219_42, ↓w219_44, ↓w219_45, ↓w219_46, ↓w219_49, ↓w219_51, ↓w219_54, ↓w219_57, ↓w219_59, ↓w219_60, ↓w219_61, ↓m_meets hr hc hM h8, ↓kc_i, ↓kc_l, ↓kc_r, ↓kc_n, rc420, g420_0, p420_0, g420_1, p420_1, g420_2, g420_3, p420_3, g420_4, p420_4, g420_5, p420_5, g420_6, p420_6, g420_7, p420_7, g420_8, p420_8, g420_9, p420_9, g420_10, g420_11, g420_12, g420_13, g420_14, g420_15, g420_16, g420_17, g420_18, g420_19, p420_19, g420_20, g420_21, g420_22, g420_23, g420_24, g420_25, g420_26, g420_27, g420_28, g420_29, g420_30, g420_31, g420_32, p420_32, g420_33, g420_34, g420_35, g420_36, g420_37, g420_38, g420_39, g420_40, g420_41, g420_42, g420_43, g420_44, g420_45, g420_46, g420_47, p420_47, g420_48, g420_49, p420_49, mul8, mul8', mul4, mul4', nI_add, inT, nclN, ltT, ltF, leT, leF, eqT, eqF, nzF, m1F, m1T, shr, shg, bI0, bI1, bo_bI, bo_1, bo_0, eq10, eq00, frT1, frT2, frT3, fit0, fit1, fit2, fit3, true_and, and_true, ↓reduceIte, Nat.reduceAdd, Nat.reduceMul, and_self, not_false_eq_true, not_true_eq_false, Nat.zero_add, Nat.add_zero]
  generalize mmet M (I 457) (V 1) (V 0 1) r c = m
  refine lp_any (T := Unit) (F := fun i acc _ => Wp L xs (d+2) 219 13 [some (.ref (420)), some (.int (nI r)), some (.int (nI c)), some (.int (m)), some (.int (acc)), some (.int (nI i))] [] (mk (pm I V) J R Z) P) (G := fun x => P (some (.int (x + nI 1))) (mk (pm I V) J R Z)) 8 ?_ ?_ (nI 0) ()
  · intro i acc t hi
    refine ⟨(), w219_13.trans ?_⟩
    simp (discharger := omega) only [↓w219_0, ↓w219_1, ↓w219_2, ↓w219_3, ↓w219_6, ↓w219_7, ↓w219_8, ↓w219_10, ↓w219_11, ↓w219_15, ↓w219_17, ↓w219_20, ↓w219_21, ↓w219_23, ↓w219_26, ↓w219_29, ↓w219_31, ↓w219_32, ↓w219_35, ↓w219_37, ↓w219_39, ↓w219_40, ↓w219_41, ↓w219_42, ↓w219_44, ↓w219_45, ↓w219_46, ↓w219_49, ↓w219_51, ↓w219_54, ↓w219_57, ↓w219_59, ↓w219_60, ↓w219_61, ↓m_isIn, ↓kc_i, ↓kc_l, ↓kc_r, ↓kc_n, rc420, g420_0, p420_0, g420_1, p420_1, g420_2, g420_3, p420_3, g420_4, p420_4, g420_5, p420_5, g420_6, p420_6, g420_7, p420_7, g420_8, p420_8, g420_9, p420_9, g420_10, g420_11, g420_12, g420_13, g420_14, g420_15, g420_16, g420_17, g420_18, g420_19, p420_19, g420_20, g420_21, g420_22, g420_23, g420_24, g420_25, g420_26, g420_27, g420_28, g420_29, g420_30, g420_31, g420_32, p420_32, g420_33, g420_34, g420_35, g420_36, g420_37, g420_38, g420_39, g420_40, g420_41, g420_42, g420_43, g420_44, g420_45, g420_46, g420_47, p420_47, g420_48, g420_49, p420_49, gi451, si451, pm_eq, pm_ne, st_pm, st_pmne, rd1, rd2, rd3, rd4, rd5, rd6, rd2s, rd3s, rd4s, rd5s, rd7, rd8, rd9, rd10, rd11, rd0, rdc, wr1, wr2, wr3, wr4, wr5, wr6, wr2s, wr3s, wr4s, wr5s, wr7, wr8, wr9, wr10, wr11, wr0, wrc, st_ne, st_eq, st_st, mul8, mul8', mul4, mul4', nI_add, inT, nclN, ltT, ltF, leT, leF, eqT, eqF, nzF, m1F, m1T, shr, shg, bI0, bI1, bo_bI, bo_1, bo_0, eq10, eq00, frT1, frT2, frT3, fit0, fit1, fit2, fit3, true_and, and_true, ↓reduceIte, Nat.reduceAdd, Nat.reduceMul, and_self, not_false_eq_true, not_true_eq_false, Nat.zero_add, Nat.add_zero]
    cases h1 : tb m i <;> simp
  · intro acc t
    refine w219_13.trans ?_
    simp (discharger := omega) only [↓w219_0, ↓w219_1, ↓w219_2, ↓w219_3, ↓w219_6, ↓w219_7, ↓w219_8, ↓w219_10, ↓w219_11, ↓w219_15, ↓w219_17, ↓w219_20, ↓w219_21, ↓w219_23, ↓w219_26, ↓w219_29, ↓w219_31, ↓w219_32, ↓w219_35, ↓w219_37, ↓w219_39, ↓w219_40, ↓w219_41, ↓w219_42, ↓w219_44, ↓w219_45, ↓w219_46, ↓w219_49, ↓w219_51, ↓w219_54, ↓w219_57, ↓w219_59, ↓w219_60, ↓w219_61, mul8, mul8', mul4, mul4', nI_add, inT, nclN, ltT, ltF, leT, leF, eqT, eqF, nzF, m1F, m1T, shr, shg, bI0, bI1, bo_bI, bo_1, bo_0, eq10, eq00, frT1, frT2, frT3, fit0, fit1, fit2, fit3, true_and, and_true, ↓reduceIte, Nat.reduceAdd, Nat.reduceMul, and_self, not_false_eq_true, not_true_eq_false, Nat.zero_add, Nat.add_zero]
theorem m_sets (hq : 8 * r + c < 40) : Wp L xs d 220 0 [some (.ref (420)), some (.int (nI r)), some (.int (nI c)), some (.int (x)), some (.int (y)), some (.int (z))] [] (mk (pm I V) J R Z) P = P none (mk (pm I (s3 V (8 * r + c) x y z)) J R Z) := by
  simp (discharger := omega) only [↓w220_0, ↓w220_1, ↓w220_4, ↓w220_6, ↓w220_7, ↓w220_8, ↓w220_9, ↓w220_10, ↓w220_11, ↓w220_12, ↓w220_13, ↓w220_16, ↓w220_18, ↓w220_20, ↓w220_21, ↓w220_22, ↓w220_23, ↓w220_24, ↓w220_25, ↓w220_27, ↓w220_28, ↓w220_29, ↓w220_32, ↓w220_34, ↓w220_36, ↓w220_37, ↓w220_38, ↓w220_39, ↓w220_40, ↓w220_41, ↓w220_43, ↓w220_44, rc420, g420_0, p420_0, g420_1, p420_1, g420_2, g420_3, p420_3, g420_4, p420_4, g420_5, p420_5, g420_6, p420_6, g420_7, p420_7, g420_8, p420_8, g420_9, p420_9, g420_10, g420_11, g420_12, g420_13, g420_14, g420_15, g420_16, g420_17, g420_18, g420_19, p420_19, g420_20, g420_21, g420_22, g420_23, g420_24, g420_25, g420_26, g420_27, g420_28, g420_29, g420_30, g420_31, g420_32, p420_32, g420_33, g420_34, g420_35, g420_36, g420_37, g420_38, g420_39, g420_40, g420_41, g420_42, g420_43, g420_44, g420_45, g420_46, g420_47, p420_47, g420_48, g420_49, p420_49, gi451, si451, pm_eq, pm_ne, st_pm, st_pmne, rd1, rd2, rd3, rd4, rd5, rd6, rd2s, rd3s, rd4s, rd5s, rd7, rd8, rd9, rd10, rd11, rd0, rdc, wr1, wr2, wr3, wr4, wr5, wr6, wr2s, wr3s, wr4s, wr5s, wr7, wr8, wr9, wr10, wr11, wr0, wrc, st_ne, st_eq, st_st, mul8, mul8', mul4, mul4', nI_add, inT, nclN, ltT, ltF, leT, leF, eqT, eqF, nzF, m1F, m1T, shr, shg, bI0, bI1, bo_bI, bo_1, bo_0, eq10, eq00, frT1, frT2, frT3, fit0, fit1, fit2, fit3, true_and, and_true, ↓reduceIte, Nat.reduceAdd, Nat.reduceMul, and_self, not_false_eq_true, not_true_eq_false, Nat.zero_add, Nat.add_zero]
  rfl
theorem m_takesFrom (hq : 8 * r + c < 40) (ho : 8 * o + c < 40) : Wp L xs (d+1) 221 0 [some (.ref (420)), some (.int (nI r)), some (.int (nI c)), some (.int (x)), some (.int (nI o))] [] (mk (pm I V) J R Z) P = P none (mk (pm I (s3 V (8 * r + c) x (V 3 (8 * o + c)) (V 4 (8 * o + c)))) J R Z) := by
  simp (discharger := omega) only [↓w221_0, ↓w221_1, ↓w221_2, ↓w221_3, ↓w221_4, ↓w221_5, ↓w221_8, ↓w221_10, ↓w221_12, ↓w221_14, ↓w221_15, ↓w221_16, ↓w221_17, ↓w221_18, ↓w221_19, ↓w221_20, ↓w221_23, ↓w221_25, ↓w221_27, ↓w221_29, ↓w221_30, ↓w221_31, ↓w221_32, ↓w221_33, ↓w221_34, ↓w221_37, ↓m_sets, ↓kc_i, ↓kc_l, ↓kc_r, ↓kc_n, rc420, g420_0, p420_0, g420_1, p420_1, g420_2, g420_3, p420_3, g420_4, p420_4, g420_5, p420_5, g420_6, p420_6, g420_7, p420_7, g420_8, p420_8, g420_9, p420_9, g420_10, g420_11, g420_12, g420_13, g420_14, g420_15, g420_16, g420_17, g420_18, g420_19, p420_19, g420_20, g420_21, g420_22, g420_23, g420_24, g420_25, g420_26, g420_27, g420_28, g420_29, g420_30, g420_31, g420_32, p420_32, g420_33, g420_34, g420_35, g420_36, g420_37, g420_38, g420_39, g420_40, g420_41, g420_42, g420_43, g420_44, g420_45, g420_46, g420_47, p420_47, g420_48, g420_49, p420_49, gi451, si451, pm_eq, pm_ne, st_pm, st_pmne, rd1, rd2, rd3, rd4, rd5, rd6, rd2s, rd3s, rd4s, rd5s, rd7, rd8, rd9, rd10, rd11, rd0, rdc, wr1, wr2, wr3, wr4, wr5, wr6, wr2s, wr3s, wr4s, wr5s, wr7, wr8, wr9, wr10, wr11, wr0, wrc, st_ne, st_eq, st_st, mul8, mul8', mul4, mul4', nI_add, inT, nclN, ltT, ltF, leT, leF, eqT, eqF, nzF, m1F, m1T, shr, shg, bI0, bI1, bo_bI, bo_1, bo_0, eq10, eq00, frT1, frT2, frT3, fit0, fit1, fit2, fit3, true_and, and_true, ↓reduceIte, Nat.reduceAdd, Nat.reduceMul, and_self, not_false_eq_true, not_true_eq_false, Nat.zero_add, Nat.add_zero]
theorem m_isLike (hq : 8 * r + c < 40) (ho : 8 * o + c < 40) : Wp L xs d 222 0 [some (.ref (420)), some (.int (nI r)), some (.int (nI o)), some (.int (nI c))] [] (mk (pm I V) J R Z) P = P (some (.int (bI (sameAt (V 3) (V 4) (8 * r + c) (8 * o + c))))) (mk (pm I V) J R Z) := by
  simp (discharger := omega) only [↓w222_0, ↓w222_1, ↓w222_4, ↓w222_6, ↓w222_8, ↓w222_9, ↓w222_10, ↓w222_11, ↓w222_12, ↓w222_13, ↓w222_14, ↓w222_15, ↓w222_18, ↓w222_20, ↓w222_22, ↓w222_23, ↓w222_24, ↓w222_25, ↓w222_26, ↓w222_27, ↓w222_28, ↓w222_31, ↓w222_32, ↓w222_35, ↓w222_37, ↓w222_39, ↓w222_40, ↓w222_41, ↓w222_42, ↓w222_43, ↓w222_44, ↓w222_45, ↓w222_46, ↓w222_49, ↓w222_51, ↓w222_53, ↓w222_54, ↓w222_55, ↓w222_56, ↓w222_57, ↓w222_58, ↓w222_59, ↓w222_62, ↓w222_63, ↓w222_66, ↓w222_67, rc420, g420_0, p420_0, g420_1, p420_1, g420_2, g420_3, p420_3, g420_4, p420_4, g420_5, p420_5, g420_6, p420_6, g420_7, p420_7, g420_8, p420_8, g420_9, p420_9, g420_10, g420_11, g420_12, g420_13, g420_14, g420_15, g420_16, g420_17, g420_18, g420_19, p420_19, g420_20, g420_21, g420_22, g420_23, g420_24, g420_25, g420_26, g420_27, g420_28, g420_29, g420_30, g420_31, g420_32, p420_32, g420_33, g420_34, g420_35, g420_36, g420_37, g420_38, g420_39, g420_40, g420_41, g420_42, g420_43, g420_44, g420_45, g420_46, g420_47, p420_47, g420_48, g420_49, p420_49, gi451, si451, pm_eq, pm_ne, st_pm, st_pmne, rd1, rd2, rd3, rd4, rd5, rd6, rd2s, rd3s, rd4s, rd5s, rd7, rd8, rd9, rd10, rd11, rd0, rdc, wr1, wr2, wr3, wr4, wr5, wr6, wr2s, wr3s, wr4s, wr5s, wr7, wr8, wr9, wr10, wr11, wr0, wrc, st_ne, st_eq, st_st, mul8, mul8', mul4, mul4', nI_add, inT, nclN, ltT, ltF, leT, leF, eqT, eqF, nzF, m1F, m1T, shr, shg, bI0, bI1, bo_bI, bo_1, bo_0, eq10, eq00, frT1, frT2, frT3, fit0, fit1, fit2, fit3, true_and, and_true, ↓reduceIte, Nat.reduceAdd, Nat.reduceMul, and_self, not_false_eq_true, not_true_eq_false, Nat.zero_add, Nat.add_zero]
  unfold sameAt
  by_cases h1 : V 3 (8 * r + c) = V 3 (8 * o + c) <;> by_cases h2 : V 4 (8 * r + c) = V 4 (8 * o + c) <;> simp [h1, h2, bI, bo_1, bo_0]
def fdn (N : Nat) (of : Int32) (f1 : Nat → Int32) (c : Nat) : Option Nat := ff N fun r => tb of r && decide (nI 3 ≤ f1 (8 * r + c))
theorem m_firstDone (hc : c < 8) (hN : I 422 0 = nI N) (h5 : N ≤ 5) : Wp L xs (d+1) 223 0 [some (.ref (420)), some (.int (x)), some (.int (nI c)), none] [] (mk (pm I V) J R Z) P = P (some (.int (oN (fdn N x (V 1) c)))) (mk (pm I V) J R Z) := by
  simp (discharger := omega) only [↓w223_0, ↓w223_1, ↓w223_3, ↓w223_4, ↓w223_7, ↓w223_8, ↓w223_9, ↓w223_12, ↓w223_13, ↓w223_14, ↓w223_17, ↓w223_20, ↓w223_21, ↓w223_22, ↓w223_23, ↓w223_26, ↓w223_27, ↓w223_30, ↓w223_31, ↓w223_32, ↓w223_35, ↓w223_38, ↓w223_39, mul8, mul8', mul4, mul4', nI_add, inT, nclN, ltT, ltF, leT, leF, eqT, eqF, nzF, m1F, m1T, shr, shg, bI0, bI1, bo_bI, bo_1, bo_0, eq10, eq00, frT1, frT2, frT3, fit0, fit1, fit2, fit3, true_and, and_true, ↓reduceIte, Nat.reduceAdd, Nat.reduceMul, and_self, not_false_eq_true, not_true_eq_false, Nat.zero_add, Nat.add_zero]
  refine ff_anyN (T := Unit) (F := fun i _ => Wp L xs (d+1) 223 2 [some (.ref (420)), some (.int (x)), some (.int (nI c)), some (.int (nI i))] [] (mk (pm I V) J R Z) P) (G := fun v => P (some (.int v)) (mk (pm I V) J R Z)) N ?_ ?_ ()
  · intro i t hi
    refine ⟨(), w223_2.trans ?_⟩
    simp (discharger := omega) only [↓w223_0, ↓w223_1, ↓w223_3, ↓w223_4, ↓w223_7, ↓w223_8, ↓w223_9, ↓w223_12, ↓w223_13, ↓w223_14, ↓w223_17, ↓w223_20, ↓w223_21, ↓w223_22, ↓w223_23, ↓w223_26, ↓w223_27, ↓w223_30, ↓w223_31, ↓w223_32, ↓w223_35, ↓w223_38, ↓w223_39, ↓m_isIn, ↓m_statusAt, ↓kc_i, ↓kc_l, ↓kc_r, ↓kc_n, rc420, g420_0, p420_0, g420_1, p420_1, g420_2, g420_3, p420_3, g420_4, p420_4, g420_5, p420_5, g420_6, p420_6, g420_7, p420_7, g420_8, p420_8, g420_9, p420_9, g420_10, g420_11, g420_12, g420_13, g420_14, g420_15, g420_16, g420_17, g420_18, g420_19, p420_19, g420_20, g420_21, g420_22, g420_23, g420_24, g420_25, g420_26, g420_27, g420_28, g420_29, g420_30, g420_31, g420_32, p420_32, g420_33, g420_34, g420_35, g420_36, g420_37, g420_38, g420_39, g420_40, g420_41, g420_42, g420_43, g420_44, g420_45, g420_46, g420_47, p420_47, g420_48, g420_49, p420_49, gi422, si422, pm_eq, pm_ne, st_pm, st_pmne, rd1, rd2, rd3, rd4, rd5, rd6, rd2s, rd3s, rd4s, rd5s, rd7, rd8, rd9, rd10, rd11, rd0, rdc, wr1, wr2, wr3, wr4, wr5, wr6, wr2s, wr3s, wr4s, wr5s, wr7, wr8, wr9, wr10, wr11, wr0, wrc, st_ne, st_eq, st_st, hN, mul8, mul8', mul4, mul4', nI_add, inT, nclN, ltT, ltF, leT, leF, eqT, eqF, nzF, m1F, m1T, shr, shg, bI0, bI1, bo_bI, bo_1, bo_0, eq10, eq00, frT1, frT2, frT3, fit0, fit1, fit2, fit3, true_and, and_true, ↓reduceIte, Nat.reduceAdd, Nat.reduceMul, and_self, not_false_eq_true, not_true_eq_false, Nat.zero_add, Nat.add_zero]
    cases tb x i
    · simp
    · by_cases h1 : V 1 (8 * i + c) < nI 3
      · simp [h1, Int32.not_le.mpr h1]
      · simp [h1, Int32.not_lt.mp h1]
  · intro t
    refine w223_2.trans ?_
    simp (discharger := omega) only [↓w223_0, ↓w223_1, ↓w223_3, ↓w223_4, ↓w223_7, ↓w223_8, ↓w223_9, ↓w223_12, ↓w223_13, ↓w223_14, ↓w223_17, ↓w223_20, ↓w223_21, ↓w223_22, ↓w223_23, ↓w223_26, ↓w223_27, ↓w223_30, ↓w223_31, ↓w223_32, ↓w223_35, ↓w223_38, ↓w223_39, rc420, g420_0, p420_0, g420_1, p420_1, g420_2, g420_3, p420_3, g420_4, p420_4, g420_5, p420_5, g420_6, p420_6, g420_7, p420_7, g420_8, p420_8, g420_9, p420_9, g420_10, g420_11, g420_12, g420_13, g420_14, g420_15, g420_16, g420_17, g420_18, g420_19, p420_19, g420_20, g420_21, g420_22, g420_23, g420_24, g420_25, g420_26, g420_27, g420_28, g420_29, g420_30, g420_31, g420_32, p420_32, g420_33, g420_34, g420_35, g420_36, g420_37, g420_38, g420_39, g420_40, g420_41, g420_42, g420_43, g420_44, g420_45, g420_46, g420_47, p420_47, g420_48, g420_49, p420_49, gi422, si422, pm_eq, pm_ne, st_pm, st_pmne, rd1, rd2, rd3, rd4, rd5, rd6, rd2s, rd3s, rd4s, rd5s, rd7, rd8, rd9, rd10, rd11, rd0, rdc, wr1, wr2, wr3, wr4, wr5, wr6, wr2s, wr3s, wr4s, wr5s, wr7, wr8, wr9, wr10, wr11, wr0, wrc, st_ne, st_eq, st_st, hN, mul8, mul8', mul4, mul4', nI_add, inT, nclN, ltT, ltF, leT, leF, eqT, eqF, nzF, m1F, m1T, shr, shg, bI0, bI1, bo_bI, bo_1, bo_0, eq10, eq00, frT1, frT2, frT3, fit0, fit1, fit2, fit3, true_and, and_true, ↓reduceIte, Nat.reduceAdd, Nat.reduceMul, and_self, not_false_eq_true, not_true_eq_false, Nat.zero_add, Nat.add_zero]
theorem m_isNew (hq : 8 * r + c < 40) : Wp L xs (d+1) 224 0 [some (.ref (420)), some (.int (nI r)), some (.int (nI c))] [] (mk (pm I V) J R Z) P = P (some (.int (bI (unt (V 1) (V 2) (8 * r + c))))) (mk (pm I V) J R Z) := by
  simp (discharger := omega) only [↓w224_0, ↓w224_1, ↓w224_2, ↓w224_3, ↓w224_6, ↓w224_9, ↓w224_10, ↓w224_13, ↓w224_15, ↓w224_17, ↓w224_18, ↓w224_19, ↓w224_20, ↓w224_21, ↓w224_22, ↓w224_23, ↓w224_26, ↓w224_27, ↓w224_30, ↓w224_31, ↓m_statusAt, ↓kc_i, ↓kc_l, ↓kc_r, ↓kc_n, rc420, g420_0, p420_0, g420_1, p420_1, g420_2, g420_3, p420_3, g420_4, p420_4, g420_5, p420_5, g420_6, p420_6, g420_7, p420_7, g420_8, p420_8, g420_9, p420_9, g420_10, g420_11, g420_12, g420_13, g420_14, g420_15, g420_16, g420_17, g420_18, g420_19, p420_19, g420_20, g420_21, g420_22, g420_23, g420_24, g420_25, g420_26, g420_27, g420_28, g420_29, g420_30, g420_31, g420_32, p420_32, g420_33, g420_34, g420_35, g420_36, g420_37, g420_38, g420_39, g420_40, g420_41, g420_42, g420_43, g420_44, g420_45, g420_46, g420_47, p420_47, g420_48, g420_49, p420_49, gi451, si451, pm_eq, pm_ne, st_pm, st_pmne, rd1, rd2, rd3, rd4, rd5, rd6, rd2s, rd3s, rd4s, rd5s, rd7, rd8, rd9, rd10, rd11, rd0, rdc, wr1, wr2, wr3, wr4, wr5, wr6, wr2s, wr3s, wr4s, wr5s, wr7, wr8, wr9, wr10, wr11, wr0, wrc, st_ne, st_eq, st_st, mul8, mul8', mul4, mul4', nI_add, inT, nclN, ltT, ltF, leT, leF, eqT, eqF, nzF, m1F, m1T, shr, shg, bI0, bI1, bo_bI, bo_1, bo_0, eq10, eq00, frT1, frT2, frT3, fit0, fit1, fit2, fit3, true_and, and_true, ↓reduceIte, Nat.reduceAdd, Nat.reduceMul, and_self, not_false_eq_true, not_true_eq_false, Nat.zero_add, Nat.add_zero]
  unfold unt
  by_cases h1 : V 1 (8 * r + c) = nI 0 <;> by_cases h2 : V 2 (8 * r + c) = nI 0 <;> simp [h1, h2, bI, bo_1, bo_0]
theorem m_isAskedAtLeader (hc : c < 8) (hl : I 427 c = nI l) (h5 : l < 5) : Wp L xs (d+2) 225 0 [some (.ref (420)), some (.int (nI c))] [] (mk (pm I V) J R Z) P = P (some (.int (bI (askd (V 0 0) (V 1) (V 2) l c)))) (mk (pm I V) J R Z) := by
  simp (discharger := omega) only [↓w225_0, ↓w225_1, ↓w225_2, ↓w225_5, ↓w225_6, ↓w225_7, ↓w225_10, ↓w225_13, ↓w225_14, ↓w225_15, ↓w225_18, ↓w225_19, ↓w225_20, ↓w225_21, ↓w225_24, ↓w225_25, ↓w225_28, ↓w225_29, ↓w225_32, ↓w225_34, ↓w225_36, ↓w225_37, ↓w225_40, ↓w225_41, ↓w225_42, ↓w225_43, ↓w225_44, ↓w225_45, ↓w225_46, ↓w225_47, ↓w225_50, ↓w225_51, ↓w225_54, ↓w225_55, ↓m_isUp, ↓m_statusAt, ↓kc_i, ↓kc_l, ↓kc_r, ↓kc_n, rc420, g420_0, p420_0, g420_1, p420_1, g420_2, g420_3, p420_3, g420_4, p420_4, g420_5, p420_5, g420_6, p420_6, g420_7, p420_7, g420_8, p420_8, g420_9, p420_9, g420_10, g420_11, g420_12, g420_13, g420_14, g420_15, g420_16, g420_17, g420_18, g420_19, p420_19, g420_20, g420_21, g420_22, g420_23, g420_24, g420_25, g420_26, g420_27, g420_28, g420_29, g420_30, g420_31, g420_32, p420_32, g420_33, g420_34, g420_35, g420_36, g420_37, g420_38, g420_39, g420_40, g420_41, g420_42, g420_43, g420_44, g420_45, g420_46, g420_47, p420_47, g420_48, g420_49, p420_49, gi451, si451, gi427, si427, pm_eq, pm_ne, st_pm, st_pmne, rd1, rd2, rd3, rd4, rd5, rd6, rd2s, rd3s, rd4s, rd5s, rd7, rd8, rd9, rd10, rd11, rd0, rdc, wr1, wr2, wr3, wr4, wr5, wr6, wr2s, wr3s, wr4s, wr5s, wr7, wr8, wr9, wr10, wr11, wr0, wrc, st_ne, st_eq, st_st, hl, mul8, mul8', mul4, mul4', nI_add, inT, nclN, ltT, ltF, leT, leF, eqT, eqF, nzF, m1F, m1T, shr, shg, bI0, bI1, bo_bI, bo_1, bo_0, eq10, eq00, frT1, frT2, frT3, fit0, fit1, fit2, fit3, true_and, and_true, ↓reduceIte, Nat.reduceAdd, Nat.reduceMul, and_self, not_false_eq_true, not_true_eq_false, Nat.zero_add, Nat.add_zero]
  unfold askd
  cases tb (V 0 0) l <;> by_cases h1 : V 1 (8 * l + c) = nI 1 <;> by_cases h2 : V 2 (8 * l + c) = nI 0 <;> simp [h1, h2, bI, bo_1, bo_0]
theorem m_unionSeq (hc : c < 8) : Wp L xs (d+1) 226 0 [some (.ref (420)), some (.int (nI c)), none, none] [] (mk (pm I V) J R Z) P = P (some (.int (usq (V 3) c (V 10 c)))) (mk (pm I V) J R Z) := by
  unfold usq
  simp (discharger := omega) only [↓w226_0, ↓w226_1, ↓w226_2, ↓w226_3, ↓w226_5, ↓w226_6, ↓w226_9, ↓w226_10, ↓w226_13, ↓w226_16, ↓w226_17, ↓w226_18, ↓w226_19, ↓w226_20, ↓w226_23, ↓w226_26, ↓w226_27, ↓w226_28, ↓w226_31, ↓w226_33, ↓w226_35, ↓w226_36, ↓w226_37, ↓w226_38, ↓w226_39, ↓w226_40, ↓w226_41, ↓w226_44, ↓w226_45, ↓w226_48, ↓w226_51, ↓w226_52, mul8, mul8', mul4, mul4', nI_add, inT, nclN, ltT, ltF, leT, leF, eqT, eqF, nzF, m1F, m1T, shr, shg, bI0, bI1, bo_bI, bo_1, bo_0, eq10, eq00, frT1, frT2, frT3, fit0, fit1, fit2, fit3, true_and, and_true, ↓reduceIte, Nat.reduceAdd, Nat.reduceMul, and_self, not_false_eq_true, not_true_eq_false, Nat.zero_add, Nat.add_zero]
  refine lp_any (T := Unit) (F := fun i acc _ => Wp L xs (d+1) 226 4 [some (.ref (420)), some (.int (nI c)), some (.int (acc)), some (.int (nI i))] [] (mk (pm I V) J R Z) P) (G := fun x => P (some (.int x)) (mk (pm I V) J R Z)) 5 ?_ ?_ (nI 0) ()
  · intro i acc t hi
    refine ⟨(), w226_4.trans ?_⟩
    simp (discharger := omega) only [↓w226_0, ↓w226_1, ↓w226_2, ↓w226_3, ↓w226_5, ↓w226_6, ↓w226_9, ↓w226_10, ↓w226_13, ↓w226_16, ↓w226_17, ↓w226_18, ↓w226_19, ↓w226_20, ↓w226_23, ↓w226_26, ↓w226_27, ↓w226_28, ↓w226_31, ↓w226_33, ↓w226_35, ↓w226_36, ↓w226_37, ↓w226_38, ↓w226_39, ↓w226_40, ↓w226_41, ↓w226_44, ↓w226_45, ↓w226_48, ↓w226_51, ↓w226_52, ↓m_isIn, ↓kc_i, ↓kc_l, ↓kc_r, ↓kc_n, rc420, g420_0, p420_0, g420_1, p420_1, g420_2, g420_3, p420_3, g420_4, p420_4, g420_5, p420_5, g420_6, p420_6, g420_7, p420_7, g420_8, p420_8, g420_9, p420_9, g420_10, g420_11, g420_12, g420_13, g420_14, g420_15, g420_16, g420_17, g420_18, g420_19, p420_19, g420_20, g420_21, g420_22, g420_23, g420_24, g420_25, g420_26, g420_27, g420_28, g420_29, g420_30, g420_31, g420_32, p420_32, g420_33, g420_34, g420_35, g420_36, g420_37, g420_38, g420_39, g420_40, g420_41, g420_42, g420_43, g420_44, g420_45, g420_46, g420_47, p420_47, g420_48, g420_49, p420_49, gi451, si451, pm_eq, pm_ne, st_pm, st_pmne, rd1, rd2, rd3, rd4, rd5, rd6, rd2s, rd3s, rd4s, rd5s, rd7, rd8, rd9, rd10, rd11, rd0, rdc, wr1, wr2, wr3, wr4, wr5, wr6, wr2s, wr3s, wr4s, wr5s, wr7, wr8, wr9, wr10, wr11, wr0, wrc, st_ne, st_eq, st_st, mul8, mul8', mul4, mul4', nI_add, inT, nclN, ltT, ltF, leT, leF, eqT, eqF, nzF, m1F, m1T, shr, shg, bI0, bI1, bo_bI, bo_1, bo_0, eq10, eq00, frT1, frT2, frT3, fit0, fit1, fit2, fit3, true_and, and_true, ↓reduceIte, Nat.reduceAdd, Nat.reduceMul, and_self, not_false_eq_true, not_true_eq_false, Nat.zero_add, Nat.add_zero]
    cases h1 : tb (V 10 c) i <;> simp
  · intro acc t
    refine w226_4.trans ?_
    simp (discharger := omega) only [↓w226_0, ↓w226_1, ↓w226_2, ↓w226_3, ↓w226_5, ↓w226_6, ↓w226_9, ↓w226_10, ↓w226_13, ↓w226_16, ↓w226_17, ↓w226_18, ↓w226_19, ↓w226_20, ↓w226_23, ↓w226_26, ↓w226_27, ↓w226_28, ↓w226_31, ↓w226_33, ↓w226_35, ↓w226_36, ↓w226_37, ↓w226_38, ↓w226_39, ↓w226_40, ↓w226_41, ↓w226_44, ↓w226_45, ↓w226_48, ↓w226_51, ↓w226_52, mul8, mul8', mul4, mul4', nI_add, inT, nclN, ltT, ltF, leT, leF, eqT, eqF, nzF, m1F, m1T, shr, shg, bI0, bI1, bo_bI, bo_1, bo_0, eq10, eq00, frT1, frT2, frT3, fit0, fit1, fit2, fit3, true_and, and_true, ↓reduceIte, Nat.reduceAdd, Nat.reduceMul, and_self, not_false_eq_true, not_true_eq_false, Nat.zero_add, Nat.add_zero]
theorem m_unionDeps (hc : c < 8) : Wp L xs (d+1) 227 0 [some (.ref (420)), some (.int (nI c)), none, none] [] (mk (pm I V) J R Z) P = P (some (.int (udp (V 4) c (V 10 c)))) (mk (pm I V) J R Z) := by
  unfold udp
  simp (discharger := omega) only [↓w227_0, ↓w227_1, ↓w227_2, ↓w227_3, ↓w227_5, ↓w227_6, ↓w227_9, ↓w227_10, ↓w227_11, ↓w227_14, ↓w227_17, ↓w227_18, ↓w227_19, ↓w227_20, ↓w227_21, ↓w227_24, ↓w227_27, ↓w227_28, ↓w227_31, ↓w227_33, ↓w227_35, ↓w227_36, ↓w227_37, ↓w227_38, ↓w227_39, ↓w227_40, ↓w227_41, ↓w227_44, ↓w227_45, ↓w227_46, ↓w227_47, ↓w227_50, ↓w227_53, ↓w227_54, mul8, mul8', mul4, mul4', nI_add, inT, nclN, ltT, ltF, leT, leF, eqT, eqF, nzF, m1F, m1T, shr, shg, bI0, bI1, bo_bI, bo_1, bo_0, eq10, eq00, frT1, frT2, frT3, fit0, fit1, fit2, fit3, true_and, and_true, ↓reduceIte, Nat.reduceAdd, Nat.reduceMul, and_self, not_false_eq_true, not_true_eq_false, Nat.zero_add, Nat.add_zero]
  refine lp_any (T := Unit) (F := fun i acc _ => Wp L xs (d+1) 227 4 [some (.ref (420)), some (.int (nI c)), some (.int (acc)), some (.int (nI i))] [] (mk (pm I V) J R Z) P) (G := fun x => P (some (.int x)) (mk (pm I V) J R Z)) 5 ?_ ?_ (nI 0) ()
  · intro i acc t hi
    refine ⟨(), w227_4.trans ?_⟩
    simp (discharger := omega) only [↓w227_0, ↓w227_1, ↓w227_2, ↓w227_3, ↓w227_5, ↓w227_6, ↓w227_9, ↓w227_10, ↓w227_11, ↓w227_14, ↓w227_17, ↓w227_18, ↓w227_19, ↓w227_20, ↓w227_21, ↓w227_24, ↓w227_27, ↓w227_28, ↓w227_31, ↓w227_33, ↓w227_35, ↓w227_36, ↓w227_37, ↓w227_38, ↓w227_39, ↓w227_40, ↓w227_41, ↓w227_44, ↓w227_45, ↓w227_46, ↓w227_47, ↓w227_50, ↓w227_53, ↓w227_54, ↓m_isIn, ↓kc_i, ↓kc_l, ↓kc_r, ↓kc_n, rc420, g420_0, p420_0, g420_1, p420_1, g420_2, g420_3, p420_3, g420_4, p420_4, g420_5, p420_5, g420_6, p420_6, g420_7, p420_7, g420_8, p420_8, g420_9, p420_9, g420_10, g420_11, g420_12, g420_13, g420_14, g420_15, g420_16, g420_17, g420_18, g420_19, p420_19, g420_20, g420_21, g420_22, g420_23, g420_24, g420_25, g420_26, g420_27, g420_28, g420_29, g420_30, g420_31, g420_32, p420_32, g420_33, g420_34, g420_35, g420_36, g420_37, g420_38, g420_39, g420_40, g420_41, g420_42, g420_43, g420_44, g420_45, g420_46, g420_47, p420_47, g420_48, g420_49, p420_49, gi451, si451, pm_eq, pm_ne, st_pm, st_pmne, rd1, rd2, rd3, rd4, rd5, rd6, rd2s, rd3s, rd4s, rd5s, rd7, rd8, rd9, rd10, rd11, rd0, rdc, wr1, wr2, wr3, wr4, wr5, wr6, wr2s, wr3s, wr4s, wr5s, wr7, wr8, wr9, wr10, wr11, wr0, wrc, st_ne, st_eq, st_st, mul8, mul8', mul4, mul4', nI_add, inT, nclN, ltT, ltF, leT, leF, eqT, eqF, nzF, m1F, m1T, shr, shg, bI0, bI1, bo_bI, bo_1, bo_0, eq10, eq00, frT1, frT2, frT3, fit0, fit1, fit2, fit3, true_and, and_true, ↓reduceIte, Nat.reduceAdd, Nat.reduceMul, and_self, not_false_eq_true, not_true_eq_false, Nat.zero_add, Nat.add_zero]
    cases h1 : tb (V 10 c) i <;> simp [or_i0]
  · intro acc t
    refine w227_4.trans ?_
    simp (discharger := omega) only [↓w227_0, ↓w227_1, ↓w227_2, ↓w227_3, ↓w227_5, ↓w227_6, ↓w227_9, ↓w227_10, ↓w227_11, ↓w227_14, ↓w227_17, ↓w227_18, ↓w227_19, ↓w227_20, ↓w227_21, ↓w227_24, ↓w227_27, ↓w227_28, ↓w227_31, ↓w227_33, ↓w227_35, ↓w227_36, ↓w227_37, ↓w227_38, ↓w227_39, ↓w227_40, ↓w227_41, ↓w227_44, ↓w227_45, ↓w227_46, ↓w227_47, ↓w227_50, ↓w227_53, ↓w227_54, mul8, mul8', mul4, mul4', nI_add, inT, nclN, ltT, ltF, leT, leF, eqT, eqF, nzF, m1F, m1T, shr, shg, bI0, bI1, bo_bI, bo_1, bo_0, eq10, eq00, frT1, frT2, frT3, fit0, fit1, fit2, fit3, true_and, and_true, ↓reduceIte, Nat.reduceAdd, Nat.reduceMul, and_self, not_false_eq_true, not_true_eq_false, Nat.zero_add, Nat.add_zero]
end M1
