/-! THE MODEL'S READER: token j is the one at hand -/
def mTk (I : Mi) (J : Mj) (g : Nat → Nat) (n j : Nat) : Prop := I 420 3 = nI n ∧ I 420 4 = nI (qq g n (j + 1)) ∧ I 420 5 = nI (bg g n j) ∧ I 420 6 = nI (kd g n j) ∧ I 420 8 = nI (tdB g n (bg g n j)) ∧ J 420 7 = lN (mwB g n (bg g n j)) ∧ sgM I g n
/-- nothing but the token at hand, what is wrong and what is given changed -/
def mF (I : Mi) (J : Mj) (I' : Mi) (J' : Mj) : Prop := (∀ a, a ≠ 420 → I' a = I a) ∧ (∀ k, k ≠ 4 → k ≠ 5 → k ≠ 6 → k ≠ 8 → k ≠ 9 → k ≠ 32 → I' 420 k = I 420 k) ∧ (∀ a, a ≠ 420 → J' a = J a) ∧ ∀ k, k ≠ 7 → J' 420 k = J 420 k
def k27 (w : Nat) : Nat := [190459599283, 220852, 1384660795, 8179, 11720705, 47, 1335359755, 10631, 1111, 423, 6465306146, 1253, 60118556, 16006376, 275695007, 397641, 7047219096, 13703, 90302, 583, 1834205, 12251, 841, 5258, 459707, 9176, 164222, 847604, 375062].getD w 0
def kws (w : Nat) : List Nat := [[114, 101, 112, 108, 105, 99, 97, 115], [107, 101, 121, 115], [99, 111, 109, 109, 97, 110, 100], [107, 101, 121], [118, 97, 108, 117, 101], [97, 116], [99, 108, 97, 115, 104, 101, 115], [110, 111, 116], [97, 110, 100], [111, 114], [112, 114, 111, 112, 111, 115, 101], [97, 115, 107], [100, 101, 99, 105, 100, 101], [97, 99, 99, 101, 112, 116], [115, 101, 116, 116, 108, 101], [116, 101, 108, 108], [114, 101, 99, 111, 118, 101, 114], [114, 117, 110], [100, 111, 119, 110], [117, 112], [99, 108, 101, 97, 110], [112, 117, 116], [97, 100, 100], [103, 101, 116], [119, 105, 112, 101], [108, 111, 119], [104, 105, 103, 104], [97, 112, 97, 114, 116], [115, 97, 109, 101]].getD w []
def hkw (w : Nat) : Nat → Nat := fun i => (kws w).getD i 0
section M0
variable {L : Nat} {xs : Nat → Int32} {d : Nat} {P : Option Value → Hp → Prop} {I I' I2 : Mi} {J J' J2 : Mj} {R : Mr} {Z : Mz} {k n i j p w b m c lo hi K : Nat} {g : Nat → Nat} {y : Int64} {v : Int32}
theorem kw_v27 : ∀ w, w < 29 → k27 w = vbo 27 96 (hkw w) 0 (kws w).length := by decide +kernel
theorem kw_v32 : ∀ w, w < 29 → (wdv w).1 = lN (vbo 32 96 (hkw w) 0 (kws w).length) := by decide +kernel
theorem kw_l : ∀ w, w < 29 → (kws w).length ≤ 8 ∧ ∀ i, i < (kws w).length → 97 ≤ hkw w (0 + i) ∧ hkw w (0 + i) ≤ 122 := by decide +kernel
theorem wdv_inj : ∀ a, a < 30 → ∀ b, b < 30 → (wdv a).1 = (wdv b).1 → a = b := by decide +kernel
theorem wofL_iff (hw : w < 29) : (wofL y = w) ↔ (wdv w).1 = y := by
  unfold wofL
  cases hf : ff 30 (fun j => decide ((wdv j).1 = y)) with
  | none =>
    rw [ff_none] at hf
    constructor
    · intro h; dsimp only at h; omega
    · intro h; have := hf w (by omega); simp [h] at this
  | some j =>
    rw [ff_some] at hf
    have hj : (wdv j).1 = y := of_decide_eq_true hf.2.1
    constructor
    · intro h; dsimp only at h; rw [← h]; exact hj
    · intro h; exact wdv_inj j hf.1 w (by omega) (hj.trans h.symm)
theorem mw_1 (h : kd g n j = 1) : mwB g n (bg g n j) = w27 g n j := by
  obtain ⟨h1, h2, h3⟩ := kd1 h
  have hlt : bg g n j < n := bg_lt (by rw [h]; decide)
  have hL : isL (g (bg g n j)) = true := by
    have := h1 0 h3
    unfold isL; simp at this ⊢; exact this
  unfold mwB w27
  rw [if_neg (by omega), if_pos hL]
  rw [show min (wlB g n (bg g n j)) 8 = wl g n j by show min (wl g n j) 8 = wl g n j; omega]
theorem kw_iff (h : kd g n j = 1) (hw : w < 29) : (lN (mwB g n (bg g n j)) = lN (k27 w)) ↔ wd g n j = w := by
  obtain ⟨h1, h2, -⟩ := kd1 h
  obtain ⟨l1, l2⟩ := kw_l w hw
  rw [mw_1 h, kw_v27 w hw]
  unfold w27
  rw [lNw h1 h2 (fun i hi => l2 i hi) l1, ← kw_v32 w hw]
  have e : wd g n j = wofL (lN (vbo 32 96 g (bg g n j) (wl g n j))) := if_pos h
  rw [e, wofL_iff hw]
  exact eq_comm
theorem mF_r : mF I J I J := ⟨fun _ _ => rfl, fun _ _ _ _ _ _ _ => rfl, fun _ _ => rfl, fun _ _ => rfl⟩
theorem mF_t (h1 : mF I J I' J') (h2 : mF I' J' I2 J2) : mF I J I2 J2 := ⟨fun a q => (h2.1 a q).trans (h1.1 a q), fun k a1 a2 a3 a4 a5 a6 => (h2.2.1 k a1 a2 a3 a4 a5 a6).trans (h1.2.1 k a1 a2 a3 a4 a5 a6), fun a q => (h2.2.2.1 a q).trans (h1.2.2.1 a q), fun k q => (h2.2.2.2 k q).trans (h1.2.2.2 k q)⟩
theorem m_nx (hn : n ≤ 1000) (h : mTk I J g n j) : ∃ I' J', (mF I J I' J' ∧ I' 420 9 = I 420 9 ∧ I' 420 32 = I 420 32 ∧ mTk I' J' g n (j + 1)) ∧ ∀ d P, Wp L xs (d+1) 178 0 [some (.ref (420)), none] [] (mk I J R Z) P = P none (mk I' J' R Z) := by
  obtain ⟨h3, h4, h5, h6, h8, h7, hs⟩ := h
  have ef : ∀ k, k ≠ 4 → k ≠ 5 → k ≠ 6 → k ≠ 8 → tkf (I 420) g n (bg g n (j + 1)) k = I 420 k := fun k a1 a2 a3 a4 => by
    unfold tkf; rw [if_neg a1, if_neg a2, if_neg a3, if_neg a4]
  refine ⟨st I 420 (tkf (I 420) g n (bg g n (j + 1))), st J 420 (vp_updL (J 420) 7 (lN (mwB g n (bg g n (j + 1))))), ⟨⟨fun a ha => st_ne ha, fun k a1 a2 a3 a4 a5 a6 => by rw [st_eq, ef k a1 a2 a3 a4], fun a ha => st_ne ha, fun k hk => by rw [st_eq, updL_ne hk]⟩, by rw [st_eq, ef 9 (by decide) (by decide) (by decide) (by decide)], by rw [st_eq, ef 32 (by decide) (by decide) (by decide) (by decide)], ?_⟩, fun d P => ?_⟩
  · refine ⟨by rw [st_eq, ef 3 (by decide) (by decide) (by decide) (by decide), h3], by rw [st_eq]; rfl, by rw [st_eq]; rfl, by rw [st_eq]; rfl, by rw [st_eq]; rfl, by rw [st_eq, updL_eq], fun k hk => by rw [st_ne (by decide)]; exact hs k hk⟩
  · exact m_next h3 h4 hn (qq_le _) hs rfl
theorem m_isWd (h : mTk I J g n j) (hw : w < 29) (hy : y = lN (k27 w)) : Wp L xs d 179 0 [some (.ref (420)), some (.long (y)), none] [] (mk I J R Z) P = P (some (.int (bI (decide (wd g n j = w))))) (mk I J R Z) := by
  obtain ⟨h3, h4, h5, h6, h8, h7, hs⟩ := h
  have hk4 := kd_4 (g := g) (n := n) (i := j)
  subst hy
  by_cases h1 : kd g n j = 1
  · have e := kw_iff h1 hw
    simp (discharger := omega) only [↓w179_0, ↓w179_1, ↓w179_4, ↓w179_5, ↓w179_8, ↓w179_9, ↓w179_12, ↓w179_13, ↓w179_14, ↓w179_17, ↓w179_18, ↓w179_21, ↓w179_22, rc420, g420_0, p420_0, g420_1, p420_1, g420_2, g420_3, p420_3, g420_4, p420_4, g420_5, p420_5, g420_6, p420_6, g420_7, p420_7, g420_8, p420_8, g420_9, p420_9, g420_10, g420_11, g420_12, g420_13, g420_14, g420_15, g420_16, g420_17, g420_18, g420_19, p420_19, g420_20, g420_21, g420_22, g420_23, g420_24, g420_25, g420_26, g420_27, g420_28, g420_29, g420_30, g420_31, g420_32, p420_32, g420_33, g420_34, g420_35, g420_36, g420_37, g420_38, g420_39, g420_40, g420_41, g420_42, g420_43, g420_44, g420_45, g420_46, g420_47, p420_47, g420_48, g420_49, p420_49, h6, h7, lgc, e, mul8, mul8', mul4, mul4', nI_add, inT, nclN, ltT, ltF, leT, leF, eqT, eqF, nzF, m1F, m1T, shr, shg, bI0, bI1, bo_bI, bo_1, bo_0, eq10, eq00, frT1, frT2, frT3, fit0, fit1, fit2, fit3, true_and, and_true, ↓reduceIte, Nat.reduceAdd, Nat.reduceMul, and_self, not_false_eq_true, not_true_eq_false, Nat.zero_add, Nat.add_zero]
    by_cases q : wd g n j = w
    · rw [if_pos q]; simp [q, bI_t]
    · rw [if_neg q]; simp [q, bI_f]
  · have e : wd g n j ≠ w := by rw [wd_29 h1]; omega
    simp (discharger := omega) only [↓w179_0, ↓w179_1, ↓w179_4, ↓w179_5, ↓w179_8, ↓w179_9, ↓w179_12, ↓w179_13, ↓w179_14, ↓w179_17, ↓w179_18, ↓w179_21, ↓w179_22, rc420, g420_0, p420_0, g420_1, p420_1, g420_2, g420_3, p420_3, g420_4, p420_4, g420_5, p420_5, g420_6, p420_6, g420_7, p420_7, g420_8, p420_8, g420_9, p420_9, g420_10, g420_11, g420_12, g420_13, g420_14, g420_15, g420_16, g420_17, g420_18, g420_19, p420_19, g420_20, g420_21, g420_22, g420_23, g420_24, g420_25, g420_26, g420_27, g420_28, g420_29, g420_30, g420_31, g420_32, p420_32, g420_33, g420_34, g420_35, g420_36, g420_37, g420_38, g420_39, g420_40, g420_41, g420_42, g420_43, g420_44, g420_45, g420_46, g420_47, p420_47, g420_48, g420_49, p420_49, h6, h7, mul8, mul8', mul4, mul4', nI_add, inT, nclN, ltT, ltF, leT, leF, eqT, eqF, nzF, m1F, m1T, shr, shg, bI0, bI1, bo_bI, bo_1, bo_0, eq10, eq00, frT1, frT2, frT3, fit0, fit1, fit2, fit3, true_and, and_true, ↓reduceIte, Nat.reduceAdd, Nat.reduceMul, and_self, not_false_eq_true, not_true_eq_false, Nat.zero_add, Nat.add_zero]
    simp [e, bI_f]
theorem m_isSg (hn : n ≤ 1000) (h : mTk I J g n j) (hc : c < 256) : Wp L xs d 180 0 [some (.ref (420)), some (.int (nI c))] [] (mk I J R Z) P = P (some (.int (bI (isSgn g n c j)))) (mk I J R Z) := by
  obtain ⟨h3, h4, h5, h6, h8, h7, hs⟩ := h
  have hk4 := kd_4 (g := g) (n := n) (i := j)
  unfold isSgn
  by_cases q3 : kd g n j = 3
  · have hlt : bg g n j < n := bg_lt (by rw [q3]; decide)
    obtain ⟨hc1, hc2⟩ := hs (bg g n j) hlt
    have hc3 := okc_lt hc2
    have e : (nI (g (bg g n j)) = nI c) = (g (bg g n j) = c) := propext (nI_eq (by omega) (by omega))
    simp (discharger := omega) only [↓w180_0, ↓w180_1, ↓w180_4, ↓w180_5, ↓w180_8, ↓w180_9, ↓w180_12, ↓w180_13, ↓w180_16, ↓w180_17, ↓w180_18, ↓w180_21, ↓w180_22, ↓w180_25, ↓w180_26, rc420, g420_0, p420_0, g420_1, p420_1, g420_2, g420_3, p420_3, g420_4, p420_4, g420_5, p420_5, g420_6, p420_6, g420_7, p420_7, g420_8, p420_8, g420_9, p420_9, g420_10, g420_11, g420_12, g420_13, g420_14, g420_15, g420_16, g420_17, g420_18, g420_19, p420_19, g420_20, g420_21, g420_22, g420_23, g420_24, g420_25, g420_26, g420_27, g420_28, g420_29, g420_30, g420_31, g420_32, p420_32, g420_33, g420_34, g420_35, g420_36, g420_37, g420_38, g420_39, g420_40, g420_41, g420_42, g420_43, g420_44, g420_45, g420_46, g420_47, p420_47, g420_48, g420_49, p420_49, gi421, si421, h6, h5, hc1, e, mul8, mul8', mul4, mul4', nI_add, inT, nclN, ltT, ltF, leT, leF, eqT, eqF, nzF, m1F, m1T, shr, shg, bI0, bI1, bo_bI, bo_1, bo_0, eq10, eq00, frT1, frT2, frT3, fit0, fit1, fit2, fit3, true_and, and_true, ↓reduceIte, Nat.reduceAdd, Nat.reduceMul, and_self, not_false_eq_true, not_true_eq_false, Nat.zero_add, Nat.add_zero]
    by_cases hq : g (bg g n j) = c
    · rw [if_pos hq]; simp [hq, q3, bI_t]
    · rw [if_neg hq]; simp [hq, bI_f]
  · simp (discharger := omega) only [↓w180_0, ↓w180_1, ↓w180_4, ↓w180_5, ↓w180_8, ↓w180_9, ↓w180_12, ↓w180_13, ↓w180_16, ↓w180_17, ↓w180_18, ↓w180_21, ↓w180_22, ↓w180_25, ↓w180_26, rc420, g420_0, p420_0, g420_1, p420_1, g420_2, g420_3, p420_3, g420_4, p420_4, g420_5, p420_5, g420_6, p420_6, g420_7, p420_7, g420_8, p420_8, g420_9, p420_9, g420_10, g420_11, g420_12, g420_13, g420_14, g420_15, g420_16, g420_17, g420_18, g420_19, p420_19, g420_20, g420_21, g420_22, g420_23, g420_24, g420_25, g420_26, g420_27, g420_28, g420_29, g420_30, g420_31, g420_32, p420_32, g420_33, g420_34, g420_35, g420_36, g420_37, g420_38, g420_39, g420_40, g420_41, g420_42, g420_43, g420_44, g420_45, g420_46, g420_47, p420_47, g420_48, g420_49, p420_49, gi421, si421, h6, mul8, mul8', mul4, mul4', nI_add, inT, nclN, ltT, ltF, leT, leF, eqT, eqF, nzF, m1F, m1T, shr, shg, bI0, bI1, bo_bI, bo_1, bo_0, eq10, eq00, frT1, frT2, frT3, fit0, fit1, fit2, fit3, true_and, and_true, ↓reduceIte, Nat.reduceAdd, Nat.reduceMul, and_self, not_false_eq_true, not_true_eq_false, Nat.zero_add, Nat.add_zero]
    simp [q3, bI_f]
theorem m_fails (h : I 420 5 = nI (bg g n j)) (hk : k ≤ 5) : Wp L xs d 181 0 [some (.ref (420)), some (.int (nI k))] [] (mk I J R Z) P = P (some (.int (nI 0))) (mk (st I 420 (upd (I 420) 9 (nI (k + 16 * bg g n j)))) J R Z) := by
  simp (discharger := omega) only [↓w181_0, ↓w181_1, ↓w181_2, ↓w181_4, ↓w181_5, ↓w181_8, ↓w181_9, ↓w181_10, ↓w181_13, ↓w181_14, rc420, g420_0, p420_0, g420_1, p420_1, g420_2, g420_3, p420_3, g420_4, p420_4, g420_5, p420_5, g420_6, p420_6, g420_7, p420_7, g420_8, p420_8, g420_9, p420_9, g420_10, g420_11, g420_12, g420_13, g420_14, g420_15, g420_16, g420_17, g420_18, g420_19, p420_19, g420_20, g420_21, g420_22, g420_23, g420_24, g420_25, g420_26, g420_27, g420_28, g420_29, g420_30, g420_31, g420_32, p420_32, g420_33, g420_34, g420_35, g420_36, g420_37, g420_38, g420_39, g420_40, g420_41, g420_42, g420_43, g420_44, g420_45, g420_46, g420_47, p420_47, g420_48, g420_49, p420_49, h, mul16, mul8, mul8', mul4, mul4', nI_add, inT, nclN, ltT, ltF, leT, leF, eqT, eqF, nzF, m1F, m1T, shr, shg, bI0, bI1, bo_bI, bo_1, bo_0, eq10, eq00, frT1, frT2, frT3, fit0, fit1, fit2, fit3, true_and, and_true, ↓reduceIte, Nat.reduceAdd, Nat.reduceMul, and_self, not_false_eq_true, not_true_eq_false, Nat.zero_add, Nat.add_zero]
theorem mF_9 : mF I J (st I 420 (upd (I 420) 9 v)) J := ⟨fun a ha => st_ne ha, fun k a1 a2 a3 a4 a5 a6 => by rw [st_eq, upd_ne a5], fun _ _ => rfl, fun _ _ => rfl⟩
theorem mF_32 : mF I J (st I 420 (upd (I 420) 32 v)) J := ⟨fun a ha => st_ne ha, fun k a1 a2 a3 a4 a5 a6 => by rw [st_eq, upd_ne a6], fun _ _ => rfl, fun _ _ => rfl⟩
theorem mTk_u {k : Nat} (h : mTk I J g n j) (h1 : k ≠ 3) (h2 : k ≠ 4) (h3 : k ≠ 5) (h4 : k ≠ 6) (h5 : k ≠ 8) : mTk (st I 420 (upd (I 420) k v)) J g n j := by
  obtain ⟨a3, a4, a5, a6, a8, a7, hs⟩ := h
  refine ⟨by rw [st_eq, upd_ne (fun z => h1 z.symm), a3], by rw [st_eq, upd_ne (fun z => h2 z.symm), a4], by rw [st_eq, upd_ne (fun z => h3 z.symm), a5], by rw [st_eq, upd_ne (fun z => h4 z.symm), a6], by rw [st_eq, upd_ne (fun z => h5 z.symm), a8], a7, fun k hk => by rw [st_ne (by decide)]; exact hs k hk⟩
theorem mTk_o {a : Nat} {φ : Nat → Int32} (h : mTk I J g n j) (h1 : a ≠ 420) (h2 : a ≠ 421) : mTk (st I a φ) J g n j := by
  obtain ⟨a3, a4, a5, a6, a8, a7, hs⟩ := h
  have e : st I a φ 420 = I 420 := st_ne (fun z => h1 z.symm)
  refine ⟨by rw [e]; exact a3, by rw [e]; exact a4, by rw [e]; exact a5, by rw [e]; exact a6, by rw [e]; exact a8, a7, fun k hk => by rw [st_ne (fun z => h2 z.symm)]; exact hs k hk⟩
theorem mTk_J {a : Nat} {φ : Nat → Int64} (h : mTk I J g n j) (h1 : a ≠ 420) : mTk I (st J a φ) g n j := by
  obtain ⟨a3, a4, a5, a6, a8, a7, hs⟩ := h
  exact ⟨a3, a4, a5, a6, a8, by rw [st_ne (fun z => h1 z.symm)]; exact a7, hs⟩
theorem td_2 (h : kd g n j = 2) : tdB g n (bg g n j) = vl g n j := by
  have h' : kdB g n (bg g n j) = 2 := h
  unfold kdB at h'
  unfold tdB vl
  split at h'
  · cases h'
  · rename_i q1
    rw [if_neg q1]
    split at h'
    · split at h' <;> cases h'
    · rename_i q2
      rw [if_neg q2]
      split at h'
      · rename_i q3
        rw [if_pos q3]
        split at h'
        · rename_i q4; rw [Nat.min_eq_left q4]
        · cases h'
      · split at h' <;> cases h'
theorem m_needsNumber (hn : n ≤ 1000) (h : mTk I J g n j) (hl : lo < 1000) (hh : hi < 1000) (hv : v = nI hi - nI 1) : ∃ I' J', (mF I J I' J' ∧ ((tkN g n lo hi (j, 0)).2 = 0 → mTk I' J' g n (j + 1) ∧ I' 420 32 = nI (vl g n j)) ∧ ((tkN g n lo hi (j, 0)).2 ≠ 0 → I' 420 9 = nI (tkN g n lo hi (j, 0)).2)) ∧ ∀ P, Wp L xs (d+2) 191 0 [some (.ref (420)), some (.int (nI lo)), some (.int (v))] [] (mk I J R Z) P = P (some (.int (bI (decide ((tkN g n lo hi (j, 0)).2 = 0))))) (mk I' J' R Z) := by
  subst hv
  have hb := bg_le (g := g) (n := n) (i := j)
  have h5 := h.2.2.1
  have h6 := h.2.2.2.1
  have h8 := h.2.2.2.2.1
  have hk4 := kd_4 (g := g) (n := n) (i := j)
  by_cases q : kd g n j = 2
  · have hv := vl_lt q
    rw [td_2 q] at h8
    have hle : (nI (vl g n j) ≤ nI hi - nI 1) = (vl g n j < hi) := hi_1 hh (by omega)
    have hgt : (nI hi - nI 1 < nI (vl g n j)) = ¬ (vl g n j < hi) := by rw [← hle]; exact propext Int32.not_le.symm
    by_cases q2 : lo ≤ vl g n j ∧ vl g n j < hi
    · rw [tkN_t q q2.1 q2.2]
      obtain ⟨I', J', ⟨f1, f2, f3, f4⟩, f5⟩ := m_nx (R := R) (Z := Z) (L := L) (xs := xs) hn (mTk_u (k := 32) (v := nI (vl g n j)) h (by decide) (by decide) (by decide) (by decide) (by decide))
      refine ⟨I', J', ⟨mF_t mF_32 f1, fun _ => ⟨f4, by rw [f3, st_eq, upd_eq]⟩, fun z => absurd rfl z⟩, fun P => ?_⟩
      have q2' : (vl g n j < hi) = True := eq_true q2.2
      simp (discharger := omega) only [↓w191_0, ↓w191_1, ↓w191_4, ↓w191_5, ↓w191_8, ↓w191_9, ↓w191_10, ↓w191_13, ↓w191_14, ↓w191_15, ↓w191_18, ↓w191_19, ↓w191_20, ↓w191_23, ↓w191_26, ↓w191_27, ↓w191_28, ↓w191_31, ↓w191_32, ↓w191_33, ↓w191_34, ↓w191_37, ↓w191_40, ↓w191_41, ↓w191_44, ↓w191_45, ↓w173_0, ↓w173_1, ↓w173_2, ↓w173_5, ↓w173_6, ↓w173_7, ↓w173_10, ↓w173_11, ↓w173_14, ↓w173_15, rc420, g420_0, p420_0, g420_1, p420_1, g420_2, g420_3, p420_3, g420_4, p420_4, g420_5, p420_5, g420_6, p420_6, g420_7, p420_7, g420_8, p420_8, g420_9, p420_9, g420_10, g420_11, g420_12, g420_13, g420_14, g420_15, g420_16, g420_17, g420_18, g420_19, p420_19, g420_20, g420_21, g420_22, g420_23, g420_24, g420_25, g420_26, g420_27, g420_28, g420_29, g420_30, g420_31, g420_32, p420_32, g420_33, g420_34, g420_35, g420_36, g420_37, g420_38, g420_39, g420_40, g420_41, g420_42, g420_43, g420_44, g420_45, g420_46, g420_47, p420_47, g420_48, g420_49, p420_49, h6, h8, hgt, q2', ↓f5, ↓kc_i, ↓kc_l, ↓kc_r, ↓kc_n, mul8, mul8', mul4, mul4', nI_add, inT, nclN, ltT, ltF, leT, leF, eqT, eqF, nzF, m1F, m1T, shr, shg, bI0, bI1, bo_bI, bo_1, bo_0, eq10, eq00, frT1, frT2, frT3, fit0, fit1, fit2, fit3, true_and, and_true, ↓reduceIte, Nat.reduceAdd, Nat.reduceMul, and_self, not_false_eq_true, not_true_eq_false, Nat.zero_add, Nat.add_zero]
      rfl
    · rw [tkN_4 q q2]
      have fl := fun P => m_fails (L := L) (xs := xs) (d := d + 1) (P := P) (J := J) (R := R) (Z := Z) (k := 4) h5 (by decide)
      refine ⟨_, J, ⟨mF_9 (v := nI (4 + 16 * bg g n j)), fun z => absurd z (by show 4 + 16 * bg g n j ≠ 0; omega), fun _ => by rw [st_eq, upd_eq]⟩, fun P => ?_⟩
      have e : decide (((j, 4 + 16 * bg g n j) : Rs).2 = 0) = false := decide_eq_false (by show 4 + 16 * bg g n j ≠ 0; omega)
      rw [e, bI_f]
      by_cases q3 : vl g n j < lo
      · simp (discharger := omega) only [↓w191_0, ↓w191_1, ↓w191_4, ↓w191_5, ↓w191_8, ↓w191_9, ↓w191_10, ↓w191_13, ↓w191_14, ↓w191_15, ↓w191_18, ↓w191_19, ↓w191_20, ↓w191_23, ↓w191_26, ↓w191_27, ↓w191_28, ↓w191_31, ↓w191_32, ↓w191_33, ↓w191_34, ↓w191_37, ↓w191_40, ↓w191_41, ↓w191_44, ↓w191_45, ↓w173_0, ↓w173_1, ↓w173_2, ↓w173_5, ↓w173_6, ↓w173_7, ↓w173_10, ↓w173_11, ↓w173_14, ↓w173_15, rc420, g420_0, p420_0, g420_1, p420_1, g420_2, g420_3, p420_3, g420_4, p420_4, g420_5, p420_5, g420_6, p420_6, g420_7, p420_7, g420_8, p420_8, g420_9, p420_9, g420_10, g420_11, g420_12, g420_13, g420_14, g420_15, g420_16, g420_17, g420_18, g420_19, p420_19, g420_20, g420_21, g420_22, g420_23, g420_24, g420_25, g420_26, g420_27, g420_28, g420_29, g420_30, g420_31, g420_32, p420_32, g420_33, g420_34, g420_35, g420_36, g420_37, g420_38, g420_39, g420_40, g420_41, g420_42, g420_43, g420_44, g420_45, g420_46, g420_47, p420_47, g420_48, g420_49, p420_49, h6, h8, ↓fl, ↓kc_i, ↓kc_l, ↓kc_r, ↓kc_n, mul8, mul8', mul4, mul4', nI_add, inT, nclN, ltT, ltF, leT, leF, eqT, eqF, nzF, m1F, m1T, shr, shg, bI0, bI1, bo_bI, bo_1, bo_0, eq10, eq00, frT1, frT2, frT3, fit0, fit1, fit2, fit3, true_and, and_true, ↓reduceIte, Nat.reduceAdd, Nat.reduceMul, and_self, not_false_eq_true, not_true_eq_false, Nat.zero_add, Nat.add_zero]
      · have q4 : (vl g n j < hi) = False := eq_false (by omega)
        simp (discharger := omega) only [↓w191_0, ↓w191_1, ↓w191_4, ↓w191_5, ↓w191_8, ↓w191_9, ↓w191_10, ↓w191_13, ↓w191_14, ↓w191_15, ↓w191_18, ↓w191_19, ↓w191_20, ↓w191_23, ↓w191_26, ↓w191_27, ↓w191_28, ↓w191_31, ↓w191_32, ↓w191_33, ↓w191_34, ↓w191_37, ↓w191_40, ↓w191_41, ↓w191_44, ↓w191_45, ↓w173_0, ↓w173_1, ↓w173_2, ↓w173_5, ↓w173_6, ↓w173_7, ↓w173_10, ↓w173_11, ↓w173_14, ↓w173_15, rc420, g420_0, p420_0, g420_1, p420_1, g420_2, g420_3, p420_3, g420_4, p420_4, g420_5, p420_5, g420_6, p420_6, g420_7, p420_7, g420_8, p420_8, g420_9, p420_9, g420_10, g420_11, g420_12, g420_13, g420_14, g420_15, g420_16, g420_17, g420_18, g420_19, p420_19, g420_20, g420_21, g420_22, g420_23, g420_24, g420_25, g420_26, g420_27, g420_28, g420_29, g420_30, g420_31, g420_32, p420_32, g420_33, g420_34, g420_35, g420_36, g420_37, g420_38, g420_39, g420_40, g420_41, g420_42, g420_43, g420_44, g420_45, g420_46, g420_47, p420_47, g420_48, g420_49, p420_49, h6, h8, hgt, q4, ↓fl, ↓kc_i, ↓kc_l, ↓kc_r, ↓kc_n, mul8, mul8', mul4, mul4', nI_add, inT, nclN, ltT, ltF, leT, leF, eqT, eqF, nzF, m1F, m1T, shr, shg, bI0, bI1, bo_bI, bo_1, bo_0, eq10, eq00, frT1, frT2, frT3, fit0, fit1, fit2, fit3, true_and, and_true, ↓reduceIte, Nat.reduceAdd, Nat.reduceMul, and_self, not_false_eq_true, not_true_eq_false, Nat.zero_add, Nat.add_zero]
  · rw [tkN_n q]
    have fl := fun P => m_fails (L := L) (xs := xs) (d := d + 1) (P := P) (J := J) (R := R) (Z := Z) (k := 1) h5 (by decide)
    refine ⟨_, J, ⟨mF_9 (v := nI (1 + 16 * bg g n j)), fun z => absurd z (by show 1 + 16 * bg g n j ≠ 0; omega), fun _ => by rw [st_eq, upd_eq]⟩, fun P => ?_⟩
    have e : decide (((j, 1 + 16 * bg g n j) : Rs).2 = 0) = false := decide_eq_false (by show 1 + 16 * bg g n j ≠ 0; omega)
    rw [e, bI_f]
    simp (discharger := omega) only [↓w191_0, ↓w191_1, ↓w191_4, ↓w191_5, ↓w191_8, ↓w191_9, ↓w191_10, ↓w191_13, ↓w191_14, ↓w191_15, ↓w191_18, ↓w191_19, ↓w191_20, ↓w191_23, ↓w191_26, ↓w191_27, ↓w191_28, ↓w191_31, ↓w191_32, ↓w191_33, ↓w191_34, ↓w191_37, ↓w191_40, ↓w191_41, ↓w191_44, ↓w191_45, ↓w173_0, ↓w173_1, ↓w173_2, ↓w173_5, ↓w173_6, ↓w173_7, ↓w173_10, ↓w173_11, ↓w173_14, ↓w173_15, rc420, g420_0, p420_0, g420_1, p420_1, g420_2, g420_3, p420_3, g420_4, p420_4, g420_5, p420_5, g420_6, p420_6, g420_7, p420_7, g420_8, p420_8, g420_9, p420_9, g420_10, g420_11, g420_12, g420_13, g420_14, g420_15, g420_16, g420_17, g420_18, g420_19, p420_19, g420_20, g420_21, g420_22, g420_23, g420_24, g420_25, g420_26, g420_27, g420_28, g420_29, g420_30, g420_31, g420_32, p420_32, g420_33, g420_34, g420_35, g420_36, g420_37, g420_38, g420_39, g420_40, g420_41, g420_42, g420_43, g420_44, g420_45, g420_46, g420_47, p420_47, g420_48, g420_49, p420_49, h6, ↓fl, ↓kc_i, ↓kc_l, ↓kc_r, ↓kc_n, mul8, mul8', mul4, mul4', nI_add, inT, nclN, ltT, ltF, leT, leF, eqT, eqF, nzF, m1F, m1T, shr, shg, bI0, bI1, bo_bI, bo_1, bo_0, eq10, eq00, frT1, frT2, frT3, fit0, fit1, fit2, fit3, true_and, and_true, ↓reduceIte, Nat.reduceAdd, Nat.reduceMul, and_self, not_false_eq_true, not_true_eq_false, Nat.zero_add, Nat.add_zero]
theorem m_closes (hn : n ≤ 1000) (h : mTk I J g n j) : ∃ I' J', (mF I J I' J' ∧ ((tkS g n 59 (j, 0)).2 = 0 → mTk I' J' g n (j + 1)) ∧ ((tkS g n 59 (j, 0)).2 ≠ 0 → I' 420 9 = nI (tkS g n 59 (j, 0)).2)) ∧ ∀ P, Wp L xs (d+2) 193 0 [some (.ref (420))] [] (mk I J R Z) P = P (some (.int (bI (decide ((tkS g n 59 (j, 0)).2 = 0))))) (mk I' J' R Z) := by
  have sg := fun P => m_isSg (L := L) (xs := xs) (d := d + 1) (P := P) (R := R) (Z := Z) (c := 59) hn h (by decide)
  cases q : isSgn g n 59 j
  · rw [tkS_n q]
    have fl := fun P => m_fails (L := L) (xs := xs) (d := d + 1) (P := P) (J := J) (R := R) (Z := Z) (k := 1) h.2.2.1 (by decide)
    refine ⟨_, J, ⟨mF_9 (v := nI (1 + 16 * bg g n j)), fun z => absurd z (by show 1 + 16 * bg g n j ≠ 0; omega), fun _ => by rw [st_eq, upd_eq]⟩, fun P => ?_⟩
    have e : decide (((j, 1 + 16 * bg g n j) : Rs).2 = 0) = false := decide_eq_false (by show 1 + 16 * bg g n j ≠ 0; omega)
    rw [e, bI_f]
    simp (discharger := omega) only [↓w193_0, ↓w193_1, ↓w193_3, ↓w193_6, ↓w193_9, ↓w193_10, ↓w193_11, ↓w193_14, ↓w193_15, ↓w193_16, ↓w193_19, ↓w193_20, rc420, g420_0, p420_0, g420_1, p420_1, g420_2, g420_3, p420_3, g420_4, p420_4, g420_5, p420_5, g420_6, p420_6, g420_7, p420_7, g420_8, p420_8, g420_9, p420_9, g420_10, g420_11, g420_12, g420_13, g420_14, g420_15, g420_16, g420_17, g420_18, g420_19, p420_19, g420_20, g420_21, g420_22, g420_23, g420_24, g420_25, g420_26, g420_27, g420_28, g420_29, g420_30, g420_31, g420_32, p420_32, g420_33, g420_34, g420_35, g420_36, g420_37, g420_38, g420_39, g420_40, g420_41, g420_42, g420_43, g420_44, g420_45, g420_46, g420_47, p420_47, g420_48, g420_49, p420_49, ↓sg, q, bI_f, ↓fl, ↓kc_i, ↓kc_l, ↓kc_r, ↓kc_n, mul8, mul8', mul4, mul4', nI_add, inT, nclN, ltT, ltF, leT, leF, eqT, eqF, nzF, m1F, m1T, shr, shg, bI0, bI1, bo_bI, bo_1, bo_0, eq10, eq00, frT1, frT2, frT3, fit0, fit1, fit2, fit3, true_and, and_true, ↓reduceIte, Nat.reduceAdd, Nat.reduceMul, and_self, not_false_eq_true, not_true_eq_false, Nat.zero_add, Nat.add_zero]
  · rw [tkS_t q]
    obtain ⟨I', J', ⟨f1, f2, f3, f4⟩, f5⟩ := m_nx (R := R) (Z := Z) (L := L) (xs := xs) hn h
    refine ⟨I', J', ⟨f1, fun _ => f4, fun z => absurd rfl z⟩, fun P => ?_⟩
    simp (discharger := omega) only [↓w193_0, ↓w193_1, ↓w193_3, ↓w193_6, ↓w193_9, ↓w193_10, ↓w193_11, ↓w193_14, ↓w193_15, ↓w193_16, ↓w193_19, ↓w193_20, rc420, g420_0, p420_0, g420_1, p420_1, g420_2, g420_3, p420_3, g420_4, p420_4, g420_5, p420_5, g420_6, p420_6, g420_7, p420_7, g420_8, p420_8, g420_9, p420_9, g420_10, g420_11, g420_12, g420_13, g420_14, g420_15, g420_16, g420_17, g420_18, g420_19, p420_19, g420_20, g420_21, g420_22, g420_23, g420_24, g420_25, g420_26, g420_27, g420_28, g420_29, g420_30, g420_31, g420_32, p420_32, g420_33, g420_34, g420_35, g420_36, g420_37, g420_38, g420_39, g420_40, g420_41, g420_42, g420_43, g420_44, g420_45, g420_46, g420_47, p420_47, g420_48, g420_49, p420_49, ↓sg, q, bI_t, ↓f5, ↓kc_i, ↓kc_l, ↓kc_r, ↓kc_n, mul8, mul8', mul4, mul4', nI_add, inT, nclN, ltT, ltF, leT, leF, eqT, eqF, nzF, m1F, m1T, shr, shg, bI0, bI1, bo_bI, bo_1, bo_0, eq10, eq00, frT1, frT2, frT3, fit0, fit1, fit2, fit3, true_and, and_true, ↓reduceIte, Nat.reduceAdd, Nat.reduceMul, and_self, not_false_eq_true, not_true_eq_false, Nat.zero_add, Nat.add_zero]
    rfl
theorem m_needsBoth (hn : n ≤ 1000) (h : mTk I J g n j) (hl : lo < 1000) (hh : hi < 1000) (hv : v = nI hi - nI 1) (hw : w < 29) (hy : y = lN (k27 w)) : ∃ I' J', (mF I J I' J' ∧ ((tkN g n lo hi (tkW g n w (j, 0))).2 = 0 → mTk I' J' g n (j + 2) ∧ I' 420 32 = nI (vl g n (j + 1))) ∧ ((tkN g n lo hi (tkW g n w (j, 0))).2 ≠ 0 → I' 420 9 = nI (tkN g n lo hi (tkW g n w (j, 0))).2)) ∧ ∀ P, Wp L xs (d+3) 192 0 [some (.ref (420)), some (.long (y)), none, some (.int (nI lo)), some (.int (v))] [] (mk I J R Z) P = P (some (.int (bI (decide ((tkN g n lo hi (tkW g n w (j, 0))).2 = 0))))) (mk I' J' R Z) := by
  have sg := fun P => m_isWd (L := L) (xs := xs) (d := d + 2) (P := P) (R := R) (Z := Z) h hw hy
  by_cases q : wd g n j = w
  · rw [tkW_t q (by omega)]
    obtain ⟨I1, J1, ⟨f1, f2, f3, f4⟩, f5⟩ := m_nx (R := R) (Z := Z) (L := L) (xs := xs) hn h
    obtain ⟨I', J', ⟨e1, e2, e3⟩, e4⟩ := m_needsNumber (L := L) (xs := xs) (d := d) (R := R) (Z := Z) hn f4 hl hh hv
    refine ⟨I', J', ⟨mF_t f1 e1, e2, e3⟩, fun P => ?_⟩
    have q' : decide (wd g n j = w) = true := decide_eq_true q
    have hbo : ∀ b, (bo (bI b) = true) = True := fun b => bo_bI
    simp (discharger := omega) only [↓w192_0, ↓w192_1, ↓w192_2, ↓w192_5, ↓w192_8, ↓w192_9, ↓w192_10, ↓w192_13, ↓w192_14, ↓w192_15, ↓w192_18, ↓w192_19, ↓w192_20, ↓w192_22, ↓w192_25, rc420, g420_0, p420_0, g420_1, p420_1, g420_2, g420_3, p420_3, g420_4, p420_4, g420_5, p420_5, g420_6, p420_6, g420_7, p420_7, g420_8, p420_8, g420_9, p420_9, g420_10, g420_11, g420_12, g420_13, g420_14, g420_15, g420_16, g420_17, g420_18, g420_19, p420_19, g420_20, g420_21, g420_22, g420_23, g420_24, g420_25, g420_26, g420_27, g420_28, g420_29, g420_30, g420_31, g420_32, p420_32, g420_33, g420_34, g420_35, g420_36, g420_37, g420_38, g420_39, g420_40, g420_41, g420_42, g420_43, g420_44, g420_45, g420_46, g420_47, p420_47, g420_48, g420_49, p420_49, ↓sg, q', bI_t, ↓f5, ↓e4, hbo, ↓kc_i, ↓kc_l, ↓kc_r, ↓kc_n, mul8, mul8', mul4, mul4', nI_add, inT, nclN, ltT, ltF, leT, leF, eqT, eqF, nzF, m1F, m1T, shr, shg, bI0, bI1, bo_bI, bo_1, bo_0, eq10, eq00, frT1, frT2, frT3, fit0, fit1, fit2, fit3, true_and, and_true, ↓reduceIte, Nat.reduceAdd, Nat.reduceMul, and_self, not_false_eq_true, not_true_eq_false, Nat.zero_add, Nat.add_zero]
  · have ef : tkN g n lo hi (tkW g n w (j, 0)) = (j, 1 + 16 * bg g n j) := by rw [tkW_n q, tkN_f (by show 1 + 16 * bg g n j ≠ 0; omega)]
    rw [ef]
    have fl := fun P => m_fails (L := L) (xs := xs) (d := d + 2) (P := P) (J := J) (R := R) (Z := Z) (k := 1) h.2.2.1 (by decide)
    refine ⟨_, J, ⟨mF_9 (v := nI (1 + 16 * bg g n j)), fun z => absurd z (by show 1 + 16 * bg g n j ≠ 0; omega), fun _ => by rw [st_eq, upd_eq]⟩, fun P => ?_⟩
    have e : decide (((j, 1 + 16 * bg g n j) : Rs).2 = 0) = false := decide_eq_false (by show 1 + 16 * bg g n j ≠ 0; omega)
    have q' : decide (wd g n j = w) = false := decide_eq_false q
    rw [e, bI_f]
    simp (discharger := omega) only [↓w192_0, ↓w192_1, ↓w192_2, ↓w192_5, ↓w192_8, ↓w192_9, ↓w192_10, ↓w192_13, ↓w192_14, ↓w192_15, ↓w192_18, ↓w192_19, ↓w192_20, ↓w192_22, ↓w192_25, rc420, g420_0, p420_0, g420_1, p420_1, g420_2, g420_3, p420_3, g420_4, p420_4, g420_5, p420_5, g420_6, p420_6, g420_7, p420_7, g420_8, p420_8, g420_9, p420_9, g420_10, g420_11, g420_12, g420_13, g420_14, g420_15, g420_16, g420_17, g420_18, g420_19, p420_19, g420_20, g420_21, g420_22, g420_23, g420_24, g420_25, g420_26, g420_27, g420_28, g420_29, g420_30, g420_31, g420_32, p420_32, g420_33, g420_34, g420_35, g420_36, g420_37, g420_38, g420_39, g420_40, g420_41, g420_42, g420_43, g420_44, g420_45, g420_46, g420_47, p420_47, g420_48, g420_49, p420_49, ↓sg, q', bI_f, ↓fl, ↓kc_i, ↓kc_l, ↓kc_r, ↓kc_n, mul8, mul8', mul4, mul4', nI_add, inT, nclN, ltT, ltF, leT, leF, eqT, eqF, nzF, m1F, m1T, shr, shg, bI0, bI1, bo_bI, bo_1, bo_0, eq10, eq00, frT1, frT2, frT3, fit0, fit1, fit2, fit3, true_and, and_true, ↓reduceIte, Nat.reduceAdd, Nat.reduceMul, and_self, not_false_eq_true, not_true_eq_false, Nat.zero_add, Nat.add_zero]
end M0
