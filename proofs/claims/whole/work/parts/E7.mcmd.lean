section M7
variable {L : Nat} {xs : Nat → Int32} {d : Nat} {P : Option Value → Hp → Prop} {I I' I2 : Mi} {J J' J2 : Mj} {R : Mr} {Z : Mz} {k n i j p w b m c lo hi K N M F r : Nat} {g : Nat → Nat} {y : Int64} {v : Int32} {D : Dg} {f : Bool} {Q : Nat → Er} {lv dep : Nat} {A B : Nat → Int64}
/-- two names told by 32 and by 27 -/
def NmP (a b : Int64) : Prop := ∃ h k, ltr h 0 k ∧ k ≤ 8 ∧ a = lN (vbo 32 96 h 0 k) ∧ b = lN (vbo 27 96 h 0 k)
theorem NmP_e {a b a' b' : Int64} (h : NmP a b) (h' : NmP a' b') : (a = a') = (b = b') := by
  obtain ⟨f, k, l1, l2, e1, e2⟩ := h
  obtain ⟨f', k', l1', l2', e1', e2'⟩ := h'
  rw [e1, e1', e2, e2']
  exact (lNw l1 l2 l1' l2').symm
theorem NmP_t (h : kd g n j = 1) : NmP (lN (w32 g n j)) (lN (w27 g n j)) := by
  obtain ⟨h1, h2, -⟩ := kd1 h
  refine ⟨fun q => g (bg g n j + q), wl g n j, fun q hq => by have := h1 q hq; rw [Nat.zero_add]; exact this, h2, ?_, ?_⟩
  · unfold w32; rw [vbo_cg (h := fun q => g (bg g n j + q)) (q := 0) (fun q _ => by rw [Nat.zero_add])]
  · unfold w27; rw [vbo_cg (h := fun q => g (bg g n j + q)) (q := 0) (fun q _ => by rw [Nat.zero_add])]
theorem m_commandNamed (h7 : J 420 7 = y) (hr : r < 2) (hM : I 422 (3 * r + 2) = nI M) (hM8 : M ≤ 8) : Wp L xs d 190 0 [some (.ref (420)), some (.int (nI r)), none] [] (mk I J R Z) P = P (some (.int (oN (ff M (fun c => decide (J 423 (8 * r + c) = y)))))) (mk I J R Z) := by
  have m3 : nI 3 * nI r = nI (3 * r) := pk_mul _ _
  simp (discharger := omega) only [↓w190_0, ↓w190_2, ↓w190_3, ↓w190_4, ↓w190_6, ↓w190_8, ↓w190_9, ↓w190_10, ↓w190_11, ↓w190_14, ↓w190_15, ↓w190_16, ↓w190_17, ↓w190_18, ↓w190_19, ↓w190_20, ↓w190_21, ↓w190_24, ↓w190_25, ↓w190_28, ↓w190_29, ↓w190_30, ↓w190_31, ↓w190_34, ↓w190_35, ↓w190_38, ↓w190_39, ↓w190_41, ↓w190_42, ↓w190_43, ↓w190_44, ↓w190_45, ↓w190_48, ↓w190_51, ↓w190_52, mul8, mul8', mul4, mul4', nI_add, inT, nclN, ltT, ltF, leT, leF, eqT, eqF, nzF, m1F, m1T, shr, shg, bI0, bI1, bo_bI, bo_1, bo_0, eq10, eq00, frT1, frT2, frT3, fit0, fit1, fit2, fit3, true_and, and_true, ↓reduceIte, Nat.reduceAdd, Nat.reduceMul, and_self, not_false_eq_true, not_true_eq_false, Nat.zero_add, Nat.add_zero]
  refine ff_anyN (T := Unit) (F := fun i _ => Wp L xs d 190 5 [some (.ref (420)), some (.int (nI r)), some (.int (nI (8 * r + i)))] [] (mk I J R Z) P) (p := fun c => decide (J 423 (8 * r + c) = y)) (G := fun x => P (some (.int x)) (mk I J R Z)) M ?_ ?_ ()
  · intro i _ hi
    refine ⟨(), w190_5.trans ?_⟩
    have hsub : nI (8 * r + i) - nI (8 * r) = nI i := by rw [nI_dif (by omega), show 8 * r + i - 8 * r = i by omega]
    simp (discharger := omega) only [↓w190_0, ↓w190_2, ↓w190_3, ↓w190_4, ↓w190_6, ↓w190_8, ↓w190_9, ↓w190_10, ↓w190_11, ↓w190_14, ↓w190_15, ↓w190_16, ↓w190_17, ↓w190_18, ↓w190_19, ↓w190_20, ↓w190_21, ↓w190_24, ↓w190_25, ↓w190_28, ↓w190_29, ↓w190_30, ↓w190_31, ↓w190_34, ↓w190_35, ↓w190_38, ↓w190_39, ↓w190_41, ↓w190_42, ↓w190_43, ↓w190_44, ↓w190_45, ↓w190_48, ↓w190_51, ↓w190_52, rc420, g420_0, p420_0, g420_1, p420_1, g420_2, g420_3, p420_3, g420_4, p420_4, g420_5, p420_5, g420_6, p420_6, g420_7, p420_7, g420_8, p420_8, g420_9, p420_9, g420_10, g420_11, g420_12, g420_13, g420_14, g420_15, g420_16, g420_17, g420_18, g420_19, p420_19, g420_20, g420_21, g420_22, g420_23, g420_24, g420_25, g420_26, g420_27, g420_28, g420_29, g420_30, g420_31, g420_32, p420_32, g420_33, g420_34, g420_35, g420_36, g420_37, g420_38, g420_39, g420_40, g420_41, g420_42, g420_43, g420_44, g420_45, g420_46, g420_47, p420_47, g420_48, g420_49, p420_49, gi422, si422, gl423, sl423, m3, hM, h7, lgc, hsub, mul8, mul8', mul4, mul4', nI_add, inT, nclN, ltT, ltF, leT, leF, eqT, eqF, nzF, m1F, m1T, shr, shg, bI0, bI1, bo_bI, bo_1, bo_0, eq10, eq00, frT1, frT2, frT3, fit0, fit1, fit2, fit3, true_and, and_true, ↓reduceIte, Nat.reduceAdd, Nat.reduceMul, and_self, not_false_eq_true, not_true_eq_false, Nat.zero_add, Nat.add_zero]
    by_cases q : J 423 (8 * r + i) = y
    · simp [q]
    · simp [q]; rfl
  · intro _
    refine w190_5.trans ?_
    simp (discharger := omega) only [↓w190_0, ↓w190_2, ↓w190_3, ↓w190_4, ↓w190_6, ↓w190_8, ↓w190_9, ↓w190_10, ↓w190_11, ↓w190_14, ↓w190_15, ↓w190_16, ↓w190_17, ↓w190_18, ↓w190_19, ↓w190_20, ↓w190_21, ↓w190_24, ↓w190_25, ↓w190_28, ↓w190_29, ↓w190_30, ↓w190_31, ↓w190_34, ↓w190_35, ↓w190_38, ↓w190_39, ↓w190_41, ↓w190_42, ↓w190_43, ↓w190_44, ↓w190_45, ↓w190_48, ↓w190_51, ↓w190_52, rc420, g420_0, p420_0, g420_1, p420_1, g420_2, g420_3, p420_3, g420_4, p420_4, g420_5, p420_5, g420_6, p420_6, g420_7, p420_7, g420_8, p420_8, g420_9, p420_9, g420_10, g420_11, g420_12, g420_13, g420_14, g420_15, g420_16, g420_17, g420_18, g420_19, p420_19, g420_20, g420_21, g420_22, g420_23, g420_24, g420_25, g420_26, g420_27, g420_28, g420_29, g420_30, g420_31, g420_32, p420_32, g420_33, g420_34, g420_35, g420_36, g420_37, g420_38, g420_39, g420_40, g420_41, g420_42, g420_43, g420_44, g420_45, g420_46, g420_47, p420_47, g420_48, g420_49, p420_49, gi422, si422, m3, hM, mul8, mul8', mul4, mul4', nI_add, inT, nclN, ltT, ltF, leT, leF, eqT, eqF, nzF, m1F, m1T, shr, shg, bI0, bI1, bo_bI, bo_1, bo_0, eq10, eq00, frT1, frT2, frT3, fit0, fit1, fit2, fit3, true_and, and_true, ↓reduceIte, Nat.reduceAdd, Nat.reduceMul, and_self, not_false_eq_true, not_true_eq_false, Nat.zero_add, Nat.add_zero]
theorem kd_word (h : wSo (wd g n j) = nI 2) : wd g n j = 21 ∨ wd g n j = 22 ∨ wd g n j = 23 ∨ wd g n j = 24 := by
  have h2 := wd_lt (g := g) (n := n) (i := j)
  have key : ∀ w, w < 30 → wSo w = nI 2 → (w = 21 ∨ w = 22 ∨ w = 23 ∨ w = 24) := by decide +kernel
  exact key _ h2 h
theorem sC_1 (hk : kd g n i ≠ 0) : sC1 g n i = (i + 1, 0) := ad_0 hk
end M7
