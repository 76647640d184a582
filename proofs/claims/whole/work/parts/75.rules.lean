section K3
variable {L : Nat} {xs : Nat → Int32} {d : Nat} {P : Option Value → Hp → Prop} {I : Mi} {J : Mj} {R : Mr} {Z : Mz} {s r c N M : Nat} {x y : Int32}
def sm (x : Int32) : Prop := ∀ k, 8 ≤ k → tb x k = false
theorem sm_bm {n : Nat} {p : Nat → Bool} (h : n ≤ 8) : sm (bm n p) := fun k hk => by rw [tb_bm (by omega)]; simp [show ¬ k < n by omega]
theorem sm_and (h : sm x) : sm (x &&& y) := fun k hk => by rw [tb_and, h k hk]; rfl
theorem sm_or (h : sm x) (h' : sm y) : sm (x ||| y) := fun k hk => by rw [tb_or, h k hk, h' k hk]; rfl
theorem sm_xor (h : sm x) (h' : sm y) : sm (x ^^^ y) := fun k hk => by rw [tb_xor, h k hk, h' k hk]; rfl
theorem sm_sg {k : Nat} (h : k < 8) : sm (sg k) := fun j hj => by rw [tb_sg (by omega)]; simp; omega
theorem sm_0 : sm (nI 0) := fun j hj => tb_0
theorem sm_255 : ∀ k, k < 32 → 8 ≤ k → tb (nI 255) k = false := by decide +kernel
theorem t_255 : ∀ k, k < 8 → tb (nI 255) k = true := by decide +kernel
theorem sm_of (h : x &&& nI 255 = x) : sm x := fun k hk => by
  by_cases h32 : k < 32
  · rw [← h, tb_and, sm_255 k h32 hk]; simp
  · exact tb_ge (by omega)
theorem sm_eq (h : sm x) : x &&& nI 255 = x := tb_ext fun k hk => by
  rw [tb_and]
  by_cases h8 : k < 8
  · rw [t_255 k h8]; simp
  · rw [h k (by omega)]; rfl
theorem sm_nI (h : sm x) : ∃ v, v < 256 ∧ x = nI v := by
  refine ⟨x.toBitVec.toNat % 2 ^ 8, Nat.mod_lt _ (by decide), ?_⟩
  rw [← pk_and x 8 (by decide : (nI 255).toBitVec.toNat = 2 ^ 8 - 1)]
  exact (sm_eq h).symm
def pcn (x : Int32) : Nat := cn 8 (tb x)
theorem pcn_le : pcn x ≤ 8 := cn_le
theorem k_bitCount (hx : sm x) : Wp L xs d 312 0 [some (.int (x))] [] (mk I J R Z) P = P (some (.int (nI (pcn x)))) (mk I J R Z) := by
  obtain ⟨v, hv, rfl⟩ := sm_nI hx
  simp only [↓w312_0, ↓w312_1, ↓w312_2, ↓w312_3, ↓w312_4, ↓w312_7, ↓w312_8, ↓w312_9, ↓w312_10, ↓w312_11, ↓w312_14, ↓w312_15, ↓w312_16, ↓w312_17, ↓w312_18, ↓w312_21, ↓w312_22, ↓w312_23, ↓w312_24, ↓w312_25, ↓w312_26, ↓w312_27, ↓w312_28, ↓w312_29, ↓w312_32, ↓w312_33, ↓w312_34, ↓w312_35, ↓w312_36, ↓w312_38, ↓w312_39, ↓w312_40, ↓w312_41, ↓w312_42, ↓w312_43, ↓w312_45, ↓w312_46, ↓w312_47, ↓w312_48, ↓w312_49, ↓w312_51, ↓w312_52, mul8, mul8', mul4, mul4', nI_add, inT, nclN, ltT, ltF, leT, leF, eqT, eqF, nzF, m1F, m1T, shr, shg, bI0, bI1, bo_bI, bo_1, bo_0, eq10, eq00, frT1, frT2, frT3, fit0, fit1, fit2, fit3, true_and, and_true, ↓reduceIte, Nat.reduceAdd, Nat.reduceMul, and_self, not_false_eq_true, not_true_eq_false, Nat.zero_add, Nat.add_zero]
  refine congrArg (fun z => P (some (.int z)) (mk I J R Z)) ?_
  clear hx
  revert v
  decide +kernel
theorem k_firstOf (hx : sm x) : Wp L xs (d+1) 170 0 [some (.int (x))] [] (mk I J R Z) P = P (some (.int (oN (ff 8 (tb x))))) (mk I J R Z) := by
  obtain ⟨v, hv, rfl⟩ := sm_nI hx
  by_cases h0 : v = 0
  · subst h0
    simp only [↓w170_0, ↓w170_1, ↓w170_4, ↓w170_5, ↓w170_8, ↓w170_9, ↓w170_10, ↓w170_11, ↓w170_12, ↓w170_13, ↓w170_14, ↓w170_17, mul8, mul8', mul4, mul4', nI_add, inT, nclN, ltT, ltF, leT, leF, eqT, eqF, nzF, m1F, m1T, shr, shg, bI0, bI1, bo_bI, bo_1, bo_0, eq10, eq00, frT1, frT2, frT3, fit0, fit1, fit2, fit3, true_and, and_true, ↓reduceIte, Nat.reduceAdd, Nat.reduceMul, and_self, not_false_eq_true, not_true_eq_false, Nat.zero_add, Nat.add_zero]
    refine congrArg (fun z => P (some (.int z)) (mk I J R Z)) ?_
    decide +kernel
  · have h1 : ∀ v, v < 256 → ¬ v = 0 → ((nI v &&& -nI v) - nI 1) &&& nI 255 = ((nI v &&& -nI v) - nI 1) := by decide +kernel
    have h2 : ∀ v, v < 256 → ¬ v = 0 → nI (pcn ((nI v &&& -nI v) - nI 1)) = oN (ff 8 (tb (nI v))) := by decide +kernel
    simp (discharger := omega) only [↓w170_0, ↓w170_1, ↓w170_4, ↓w170_5, ↓w170_8, ↓w170_9, ↓w170_10, ↓w170_11, ↓w170_12, ↓w170_13, ↓w170_14, ↓w170_17, mul8, mul8', mul4, mul4', nI_add, inT, nclN, ltT, ltF, leT, leF, eqT, eqF, nzF, m1F, m1T, shr, shg, bI0, bI1, bo_bI, bo_1, bo_0, eq10, eq00, frT1, frT2, frT3, fit0, fit1, fit2, fit3, true_and, and_true, ↓reduceIte, Nat.reduceAdd, Nat.reduceMul, and_self, not_false_eq_true, not_true_eq_false, Nat.zero_add, Nat.add_zero, ↓k_bitCount (sm_of (h1 v hv h0)), ↓kc_i, ↓kc_l, ↓kc_r, ↓kc_n, h2 v hv h0]
def met (f1 : Nat → Int32) (cl cn : Int32) (r : Nat) : Int32 := ((bm 8 fun c => inr (f1 (8 * r + c)) (nI 1) (nI 4)) &&& cl) &&& (cn ^^^ (-1))
def bhd (f3 : Nat → Int32) (M r : Nat) (m : Int32) : Int32 := mxs M (tb m) (fun c => f3 (8 * r + c)) + nI 1
theorem sm_met {f1 : Nat → Int32} {cl cn : Int32} {r : Nat} : sm (met f1 cl cn r) := sm_and (sm_and (sm_bm (Nat.le_refl 8)))
theorem k_meets (hs : isS s) (hr : r < 5) (hc : c < 8) : Wp L xs (d+2) 69 0 [some (.ref (128)), some (.ref (s)), some (.int (nI r)), some (.int (nI c))] [] (mk I J R Z) P = P (some (.int (met (I (s + 1)) (I 81 c) (I s 1) r))) (mk I J R Z) := by
  simp (discharger := omega) only [↓w69_0, ↓w69_1, ↓w69_2, ↓w69_3, ↓w69_4, ↓w69_7, ↓w69_8, ↓w69_11, ↓w69_14, ↓w69_15, ↓w69_16, ↓w69_17, ↓w69_18, ↓w69_21, ↓w69_22, ↓w69_23, ↓w69_24, ↓k_commandsAt hs hr, ↓kc_i, ↓kc_l, ↓kc_r, ↓kc_n, gS0 hs, gS1 hs, gS2 hs, gS3 hs, gS4 hs, gS5 hs, gS6 hs, gS7 hs, gS8 hs, gS9 hs, gS10 hs, gS11 hs, gS12 hs, giS1 hs, giS2 hs, giS3 hs, giS4 hs, giS5 hs, giS6 hs, giS7 hs, giS8 hs, giS9 hs, giS10 hs, giS11 hs, siS1 hs, siS2 hs, siS3 hs, siS4 hs, siS5 hs, siS6 hs, siS7 hs, siS8 hs, siS9 hs, siS10 hs, siS11 hs, pS0 hs, pS1 hs, rcS hs, rc128, g128_0, g128_1, g128_2, p128_2, g128_3, p128_3, rc76, g76_0, p76_0, g76_1, p76_1, g76_2, p76_2, g76_3, g76_4, g76_5, g76_6, g76_7, g76_8, gi81, si81, mul8, mul8', mul4, mul4', nI_add, inT, nclN, ltT, ltF, leT, leF, eqT, eqF, nzF, m1F, m1T, shr, shg, bI0, bI1, bo_bI, bo_1, bo_0, eq10, eq00, frT1, frT2, frT3, fit0, fit1, fit2, fit3, true_and, and_true, ↓reduceIte, Nat.reduceAdd, Nat.reduceMul, and_self, not_false_eq_true, not_true_eq_false, Nat.zero_add, Nat.add_zero]
  rfl
theorem k_behind {m : Int32} (hs : isS s) (hr : r < 5) (hM : I 76 2 = nI M) (h8 : M ≤ 8) : Wp L xs (d+1) 70 0 [some (.ref (128)), some (.ref (s)), some (.int (nI r)), some (.int (m)), none, none] [] (mk I J R Z) P = P (some (.int (bhd (I (s + 3)) M r m))) (mk I J R Z) := by
  simp (discharger := omega) only [↓w70_0, ↓w70_1, ↓w70_3, ↓w70_4, ↓w70_8, ↓w70_9, ↓w70_12, ↓w70_15, ↓w70_18, ↓w70_19, ↓w70_21, ↓w70_22, ↓w70_23, ↓w70_24, ↓w70_27, ↓w70_29, ↓w70_30, ↓w70_33, ↓w70_34, ↓w70_36, ↓w70_39, ↓w70_40, ↓w70_43, ↓w70_45, ↓w70_48, ↓w70_51, ↓w70_53, ↓w70_54, ↓w70_55, mul8, mul8', mul4, mul4', nI_add, inT, nclN, ltT, ltF, leT, leF, eqT, eqF, nzF, m1F, m1T, shr, shg, bI0, bI1, bo_bI, bo_1, bo_0, eq10, eq00, frT1, frT2, frT3, fit0, fit1, fit2, fit3, true_and, and_true, ↓reduceIte, Nat.reduceAdd, Nat.reduceMul, and_self, not_false_eq_true, not_true_eq_false, Nat.zero_add, Nat.add_zero]
  refine lp_any (T := Unit) (F := fun i acc _ => Wp L xs (d+1) 70 6 [some (.ref (128)), some (.ref (s)), some (.int (nI r)), some (.int (m)), some (.int (acc)), some (.int (nI i))] [] (mk I J R Z) P) (G := fun x => P (some (.int (x + nI 1))) (mk I J R Z)) M ?_ ?_ (nI 0) ()
  · intro i acc t hi
    refine ⟨(), w70_6.trans ?_⟩
    simp (discharger := omega) only [↓w70_0, ↓w70_1, ↓w70_3, ↓w70_4, ↓w70_8, ↓w70_9, ↓w70_12, ↓w70_15, ↓w70_18, ↓w70_19, ↓w70_21, ↓w70_22, ↓w70_23, ↓w70_24, ↓w70_27, ↓w70_29, ↓w70_30, ↓w70_33, ↓w70_34, ↓w70_36, ↓w70_39, ↓w70_40, ↓w70_43, ↓w70_45, ↓w70_48, ↓w70_51, ↓w70_53, ↓w70_54, ↓w70_55, ↓k_cellOf, ↓kc_i, ↓kc_l, ↓kc_r, ↓kc_n, gS0 hs, gS1 hs, gS2 hs, gS3 hs, gS4 hs, gS5 hs, gS6 hs, gS7 hs, gS8 hs, gS9 hs, gS10 hs, gS11 hs, gS12 hs, giS1 hs, giS2 hs, giS3 hs, giS4 hs, giS5 hs, giS6 hs, giS7 hs, giS8 hs, giS9 hs, giS10 hs, giS11 hs, siS1 hs, siS2 hs, siS3 hs, siS4 hs, siS5 hs, siS6 hs, siS7 hs, siS8 hs, siS9 hs, siS10 hs, siS11 hs, pS0 hs, pS1 hs, rcS hs, rc128, g128_0, g128_1, g128_2, p128_2, g128_3, p128_3, rc76, g76_0, p76_0, g76_1, p76_1, g76_2, p76_2, g76_3, g76_4, g76_5, g76_6, g76_7, g76_8, hM, mul8, mul8', mul4, mul4', nI_add, inT, nclN, ltT, ltF, leT, leF, eqT, eqF, nzF, m1F, m1T, shr, shg, bI0, bI1, bo_bI, bo_1, bo_0, eq10, eq00, frT1, frT2, frT3, fit0, fit1, fit2, fit3, true_and, and_true, ↓reduceIte, Nat.reduceAdd, Nat.reduceMul, and_self, not_false_eq_true, not_true_eq_false, Nat.zero_add, Nat.add_zero]
    cases h1 : tb m i <;> simp
  · intro acc t
    refine w70_6.trans ?_
    simp (discharger := omega) only [↓w70_0, ↓w70_1, ↓w70_3, ↓w70_4, ↓w70_8, ↓w70_9, ↓w70_12, ↓w70_15, ↓w70_18, ↓w70_19, ↓w70_21, ↓w70_22, ↓w70_23, ↓w70_24, ↓w70_27, ↓w70_29, ↓w70_30, ↓w70_33, ↓w70_34, ↓w70_36, ↓w70_39, ↓w70_40, ↓w70_43, ↓w70_45, ↓w70_48, ↓w70_51, ↓w70_53, ↓w70_54, ↓w70_55, rc128, g128_0, g128_1, g128_2, p128_2, g128_3, p128_3, rc76, g76_0, p76_0, g76_1, p76_1, g76_2, p76_2, g76_3, g76_4, g76_5, g76_6, g76_7, g76_8, hM, mul8, mul8', mul4, mul4', nI_add, inT, nclN, ltT, ltF, leT, leF, eqT, eqF, nzF, m1F, m1T, shr, shg, bI0, bI1, bo_bI, bo_1, bo_0, eq10, eq00, frT1, frT2, frT3, fit0, fit1, fit2, fit3, true_and, and_true, ↓reduceIte, Nat.reduceAdd, Nat.reduceMul, and_self, not_false_eq_true, not_true_eq_false, Nat.zero_add, Nat.add_zero]
theorem k_isUntouched (hs : isS s) (hc : c < 40) : Wp L xs d 71 0 [some (.ref (s)), some (.int (nI c))] [] (mk I J R Z) P = P (some (.int (bI (decide (I (s + 1) c = nI 0) && decide (I (s + 2) c = nI 0))))) (mk I J R Z) := by
  simp (discharger := omega) only [↓w71_0, ↓w71_1, ↓w71_4, ↓w71_5, ↓w71_6, ↓w71_9, ↓w71_10, ↓w71_13, ↓w71_14, ↓w71_15, ↓w71_18, ↓w71_19, ↓w71_22, ↓w71_23, gS0 hs, gS1 hs, gS2 hs, gS3 hs, gS4 hs, gS5 hs, gS6 hs, gS7 hs, gS8 hs, gS9 hs, gS10 hs, gS11 hs, gS12 hs, giS1 hs, giS2 hs, giS3 hs, giS4 hs, giS5 hs, giS6 hs, giS7 hs, giS8 hs, giS9 hs, giS10 hs, giS11 hs, siS1 hs, siS2 hs, siS3 hs, siS4 hs, siS5 hs, siS6 hs, siS7 hs, siS8 hs, siS9 hs, siS10 hs, siS11 hs, pS0 hs, pS1 hs, rcS hs, mul8, mul8', mul4, mul4', nI_add, inT, nclN, ltT, ltF, leT, leF, eqT, eqF, nzF, m1F, m1T, shr, shg, bI0, bI1, bo_bI, bo_1, bo_0, eq10, eq00, frT1, frT2, frT3, fit0, fit1, fit2, fit3, true_and, and_true, ↓reduceIte, Nat.reduceAdd, Nat.reduceMul, and_self, not_false_eq_true, not_true_eq_false, Nat.zero_add, Nat.add_zero]
  by_cases h1 : I (s + 1) c = nI 0 <;> by_cases h2 : I (s + 2) c = nI 0 <;> simp [h1, h2, bI, bo_1, bo_0]
theorem k_isAskedAtLeader {l : Nat} (hs : isS s) (hc : c < 8) (hl : I 80 c = nI l) (h5 : l < 5) : Wp L xs (d+1) 72 0 [some (.ref (128)), some (.ref (s)), some (.int (nI c)), none, none] [] (mk I J R Z) P = P (some (.int (bI (tb (I s 0) l && (decide (I (s + 1) (8 * l + c) = nI 1) && decide (I (s + 2) (8 * l + c) = nI 0)))))) (mk I J R Z) := by
  simp (discharger := omega) only [↓w72_0, ↓w72_1, ↓w72_4, ↓w72_7, ↓w72_8, ↓w72_9, ↓w72_10, ↓w72_11, ↓w72_12, ↓w72_15, ↓w72_17, ↓w72_18, ↓w72_19, ↓w72_22, ↓w72_25, ↓w72_26, ↓w72_29, ↓w72_31, ↓w72_32, ↓w72_33, ↓w72_36, ↓w72_37, ↓w72_40, ↓w72_42, ↓w72_43, ↓w72_46, ↓w72_47, ↓w72_50, ↓w72_51, ↓k_isUp hs, ↓k_cellOf, ↓kc_i, ↓kc_l, ↓kc_r, ↓kc_n, gS0 hs, gS1 hs, gS2 hs, gS3 hs, gS4 hs, gS5 hs, gS6 hs, gS7 hs, gS8 hs, gS9 hs, gS10 hs, gS11 hs, gS12 hs, giS1 hs, giS2 hs, giS3 hs, giS4 hs, giS5 hs, giS6 hs, giS7 hs, giS8 hs, giS9 hs, giS10 hs, giS11 hs, siS1 hs, siS2 hs, siS3 hs, siS4 hs, siS5 hs, siS6 hs, siS7 hs, siS8 hs, siS9 hs, siS10 hs, siS11 hs, pS0 hs, pS1 hs, rcS hs, rc128, g128_0, g128_1, g128_2, p128_2, g128_3, p128_3, rc76, g76_0, p76_0, g76_1, p76_1, g76_2, p76_2, g76_3, g76_4, g76_5, g76_6, g76_7, g76_8, gi80, si80, hl, mul8, mul8', mul4, mul4', nI_add, inT, nclN, ltT, ltF, leT, leF, eqT, eqF, nzF, m1F, m1T, shr, shg, bI0, bI1, bo_bI, bo_1, bo_0, eq10, eq00, frT1, frT2, frT3, fit0, fit1, fit2, fit3, true_and, and_true, ↓reduceIte, Nat.reduceAdd, Nat.reduceMul, and_self, not_false_eq_true, not_true_eq_false, Nat.zero_add, Nat.add_zero]
  cases tb (I s 0) l <;> by_cases h1 : I (s + 1) (8 * l + c) = nI 1 <;> by_cases h2 : I (s + 2) (8 * l + c) = nI 0 <;> simp [h1, h2, bI, bo_1, bo_0]
theorem k_isAcceptedAtHost {h : Nat} (hs : isS s) (hc : c < 8) (hh : I (s + 9) c = nI h) (h5 : h < 5) : Wp L xs (d+1) 73 0 [some (.ref (s)), some (.int (nI c)), none] [] (mk I J R Z) P = P (some (.int (bI (tb (I s 0) h && decide (I (s + 1) (8 * h + c) = nI 2))))) (mk I J R Z) := by
  simp (discharger := omega) only [↓w73_0, ↓w73_1, ↓w73_4, ↓w73_5, ↓w73_6, ↓w73_7, ↓w73_8, ↓w73_9, ↓w73_12, ↓w73_15, ↓w73_16, ↓w73_19, ↓w73_20, ↓w73_21, ↓w73_24, ↓w73_25, ↓w73_26, ↓w73_29, ↓w73_30, ↓w73_33, ↓w73_34, ↓k_isUp hs, ↓k_cellOf, ↓kc_i, ↓kc_l, ↓kc_r, ↓kc_n, gS0 hs, gS1 hs, gS2 hs, gS3 hs, gS4 hs, gS5 hs, gS6 hs, gS7 hs, gS8 hs, gS9 hs, gS10 hs, gS11 hs, gS12 hs, giS1 hs, giS2 hs, giS3 hs, giS4 hs, giS5 hs, giS6 hs, giS7 hs, giS8 hs, giS9 hs, giS10 hs, giS11 hs, siS1 hs, siS2 hs, siS3 hs, siS4 hs, siS5 hs, siS6 hs, siS7 hs, siS8 hs, siS9 hs, siS10 hs, siS11 hs, pS0 hs, pS1 hs, rcS hs, hh, mul8, mul8', mul4, mul4', nI_add, inT, nclN, ltT, ltF, leT, leF, eqT, eqF, nzF, m1F, m1T, shr, shg, bI0, bI1, bo_bI, bo_1, bo_0, eq10, eq00, frT1, frT2, frT3, fit0, fit1, fit2, fit3, true_and, and_true, ↓reduceIte, Nat.reduceAdd, Nat.reduceMul, and_self, not_false_eq_true, not_true_eq_false, Nat.zero_add, Nat.add_zero]
  cases tb (I s 0) h <;> by_cases h1 : I (s + 1) (8 * h + c) = nI 2 <;> simp [h1, bI, bo_1, bo_0]
def mst (N : Nat) : Nat := N / 2 + 1
def fst5 (N : Nat) : Nat := if N = 5 then 4 else 2
theorem k_most (hN : I 76 0 = nI N) (h5 : N ≤ 5) : Wp L xs d 7 0 [some (.ref (76))] [] (mk I J R Z) P = P (some (.int (nI (mst N)))) (mk I J R Z) := by
  simp (discharger := omega) only [↓w7_0, ↓w7_1, ↓w7_4, ↓w7_5, ↓w7_6, ↓w7_7, ↓w7_8, rc76, g76_0, p76_0, g76_1, p76_1, g76_2, p76_2, g76_3, g76_4, g76_5, g76_6, g76_7, g76_8, hN, mul8, mul8', mul4, mul4', nI_add, inT, nclN, ltT, ltF, leT, leF, eqT, eqF, nzF, m1F, m1T, shr, shg, bI0, bI1, bo_bI, bo_1, bo_0, eq10, eq00, frT1, frT2, frT3, fit0, fit1, fit2, fit3, true_and, and_true, ↓reduceIte, Nat.reduceAdd, Nat.reduceMul, and_self, not_false_eq_true, not_true_eq_false, Nat.zero_add, Nat.add_zero, pk_div, mst]
theorem k_fast (hN : I 76 0 = nI N) (h5 : N ≤ 5) : Wp L xs d 8 0 [some (.ref (76))] [] (mk I J R Z) P = P (some (.int (nI (fst5 N)))) (mk I J R Z) := by
  simp (discharger := omega) only [↓w8_0, ↓w8_1, ↓w8_4, ↓w8_5, ↓w8_8, ↓w8_9, ↓w8_12, ↓w8_13, rc76, g76_0, p76_0, g76_1, p76_1, g76_2, p76_2, g76_3, g76_4, g76_5, g76_6, g76_7, g76_8, hN, mul8, mul8', mul4, mul4', nI_add, inT, nclN, ltT, ltF, leT, leF, eqT, eqF, nzF, m1F, m1T, shr, shg, bI0, bI1, bo_bI, bo_1, bo_0, eq10, eq00, frT1, frT2, frT3, fit0, fit1, fit2, fit3, true_and, and_true, ↓reduceIte, Nat.reduceAdd, Nat.reduceMul, and_self, not_false_eq_true, not_true_eq_false, Nat.zero_add, Nat.add_zero]
  unfold fst5
  by_cases h : N = 5
  · subst h; simp
  · rw [if_neg (fun z => h ((nI_eq (by omega) (by omega)).mp z)), if_neg h]
def allR (N : Nat) : Int32 := sg N - nI 1
theorem k_allReplicas (hN : I 76 0 = nI N) (h5 : N ≤ 5) : Wp L xs d 9 0 [some (.ref (76))] [] (mk I J R Z) P = P (some (.int (allR N))) (mk I J R Z) := by
  simp (discharger := omega) only [↓w9_0, ↓w9_1, ↓w9_2, ↓w9_5, ↓w9_6, ↓w9_7, ↓w9_8, rc76, g76_0, p76_0, g76_1, p76_1, g76_2, p76_2, g76_3, g76_4, g76_5, g76_6, g76_7, g76_8, hN, mul8, mul8', mul4, mul4', nI_add, inT, nclN, ltT, ltF, leT, leF, eqT, eqF, nzF, m1F, m1T, shr, shg, bI0, bI1, bo_bI, bo_1, bo_0, eq10, eq00, frT1, frT2, frT3, fit0, fit1, fit2, fit3, true_and, and_true, ↓reduceIte, Nat.reduceAdd, Nat.reduceMul, and_self, not_false_eq_true, not_true_eq_false, Nat.zero_add, Nat.add_zero]
  rfl
end K3
