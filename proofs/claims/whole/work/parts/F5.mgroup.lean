/-! THE MODEL'S group() -/
section N5
variable {L : Nat} {xs : Nat → Int32} {d : Nat} {P : Option Value → Hp → Prop} {I I' I2 I3 I1 : Mi} {J J' J2 : Mj} {R : Mr} {Z : Mz} {k n i j p w m c e a b sz F M K1 : Nat} {v x y : Int32} {g : Nat → Nat} {D : Dg} {f f' : Nat → Int32} {V : Vw}
theorem m_begins (hn : n ≤ 1000) (h1 : I 420 1 = nI n) (hs : sgM I g n) : ∃ I' J', (mTk I' J' g n 0 ∧ (∀ a, a ≠ 420 → I' a = I a) ∧ (∀ k, k ≠ 1 → k ≠ 3 → k ≠ 4 → k ≠ 5 → k ≠ 6 → k ≠ 8 → I' 420 k = I 420 k) ∧ I' 420 1 = nI 0 ∧ (∀ a, a ≠ 420 → J' a = J a) ∧ ∀ k, k ≠ 7 → J' 420 k = J 420 k) ∧ ∀ d P, Wp L xs (d+2) 198 0 [some (.ref (420))] [] (mk I J R Z) P = P none (mk I' J' R Z) := by
  generalize hI1 : st I 420 (upd (upd (upd (I 420) 3 (nI n)) 1 (nI 0)) 4 (nI 0)) = I1
  have e3 : I1 420 3 = nI n := by rw [← hI1, st_eq, upd_ne (by decide), upd_ne (by decide), upd_eq]
  have e4 : I1 420 4 = nI (qq g n 0) := by rw [← hI1, st_eq, upd_eq]; rfl
  have e1 : I1 420 1 = nI 0 := by rw [← hI1, st_eq, upd_ne (by decide), upd_eq]
  have eo : ∀ k, k ≠ 1 → k ≠ 3 → k ≠ 4 → I1 420 k = I 420 k := fun k a1 a2 a3 => by rw [← hI1, st_eq, upd_ne a3, upd_ne a1, upd_ne a2]
  have es : sgM I1 g n := fun k hk => by rw [← hI1, st_ne (by decide)]; exact hs k hk
  have nx := fun d P => m_next (L := L) (xs := xs) (d := d) (P := P) (I := I1) (J := J) (R := R) (Z := Z) (b := bg g n 0) e3 e4 hn (qq_le 0) es rfl
  have ef : ∀ k, k ≠ 4 → k ≠ 5 → k ≠ 6 → k ≠ 8 → tkf (I1 420) g n (bg g n 0) k = I1 420 k := fun k a1 a2 a3 a4 => by
    unfold tkf; rw [if_neg a1, if_neg a2, if_neg a3, if_neg a4]
  refine ⟨st I1 420 (tkf (I1 420) g n (bg g n 0)), st J 420 (vp_updL (J 420) 7 (lN (mwB g n (bg g n 0)))), ⟨⟨by rw [st_eq, ef 3 (by decide) (by decide) (by decide) (by decide), e3], by rw [st_eq]; rfl, by rw [st_eq]; rfl, by rw [st_eq]; rfl, by rw [st_eq]; rfl, by rw [st_eq, updL_eq], fun k hk => by rw [st_ne (by decide)]; exact es k hk⟩, fun a ha => by rw [st_ne ha, ← hI1, st_ne ha], fun k a1 a2 a3 a4 a5 a6 => by rw [st_eq, ef k a3 a4 a5 a6, eo k a1 a2 a3], by rw [st_eq, ef 1 (by decide) (by decide) (by decide) (by decide), e1], fun a ha => st_ne ha, fun k hk => by rw [st_eq, updL_ne hk]⟩, fun d P => ?_⟩
  simp (discharger := omega) only [↓w198_0, ↓w198_1, ↓w198_2, ↓w198_5, ↓w198_8, ↓w198_9, ↓w198_10, ↓w198_13, ↓w198_14, ↓w198_15, ↓w198_18, ↓w198_19, ↓w198_22, rc420, g420_0, p420_0, g420_1, p420_1, g420_2, g420_3, p420_3, g420_4, p420_4, g420_5, p420_5, g420_6, p420_6, g420_7, p420_7, g420_8, p420_8, g420_9, p420_9, g420_10, g420_11, g420_12, g420_13, g420_14, g420_15, g420_16, g420_17, g420_18, g420_19, p420_19, g420_20, g420_21, g420_22, g420_23, g420_24, g420_25, g420_26, g420_27, g420_28, g420_29, g420_30, g420_31, g420_32, p420_32, g420_33, g420_34, g420_35, g420_36, g420_37, g420_38, g420_39, g420_40, g420_41, g420_42, g420_43, g420_44, g420_45, g420_46, g420_47, p420_47, g420_48, g420_49, p420_49, h1, st_eq, st_st, hI1, ↓nx, ↓kc_i, ↓kc_l, ↓kc_r, ↓kc_n, mul8, mul8', mul4, mul4', nI_add, inT, nclN, ltT, ltF, leT, leF, eqT, eqF, nzF, m1F, m1T, shr, shg, bI0, bI1, bo_bI, bo_1, bo_0, eq10, eq00, frT1, frT2, frT3, fit0, fit1, fit2, fit3, true_and, and_true, ↓reduceIte, Nat.reduceAdd, Nat.reduceMul, and_self, not_false_eq_true, not_true_eq_false, Nat.zero_add, Nat.add_zero]
/-- frames of the model's reading of a group -/
def maF (I : Mi) (J : Mj) (I' : Mi) (J' : Mj) : Prop := ((∀ a, a ≠ 420 → a ≠ 422 → (a < 424 ∨ 432 < a) → I' a = I a) ∧ (∀ k, k ≠ 1 → k ≠ 3 → k ≠ 4 → k ≠ 5 → k ≠ 6 → k ≠ 8 → k ≠ 9 → k ≠ 19 → k ≠ 32 → I' 420 k = I 420 k) ∧ I' 420 1 = nI 0) ∧ ((∀ k, k < 3 → I' 422 k = I 422 k) ∧ ∀ a, 424 ≤ a → a ≤ 427 → ∀ k, (k < 8 ∨ 16 ≤ k) → I' a k = I a k) ∧ (∀ k, k < 8 → J' 423 k = J 423 k) ∧ (∀ a, a ≠ 420 → a ≠ 423 → J' a = J a) ∧ ∀ k, k ≠ 7 → J' 420 k = J 420 k
theorem m_readsAll (hn : n ≤ 1000) (hF : 29 < F) (hK : K1 = 1000) (h1 : I 420 1 = nI n) (hs : sgM I g n) : ∃ I' J', (maF I J I' J' ∧ ((gR g n F K1 (0, 0, 0, fun _ => 0, 0) 0).2.2 = 0 → MD I' J' g n F (gR g n F K1 (0, 0, 0, fun _ => 0, 0) 0).1) ∧ ((gR g n F K1 (0, 0, 0, fun _ => 0, 0) 0).2.2 ≠ 0 → I' 420 9 = nI (gR g n F K1 (0, 0, 0, fun _ => 0, 0) 0).2.2)) ∧ ∀ P, Wp L xs (d+5) 199 0 [some (.ref (420)), none] [] (mk I J R Z) P = P (some (.int (bI (decide ((gR g n F K1 (0, 0, 0, fun _ => 0, 0) 0).2.2 = 0))))) (mk I' J' R Z) := by
  obtain ⟨T, hTn, hT1, hT2⟩ := ex_T (g := g) (n := n)
  have key : ∀ P k, k ≤ 3 → Wp L xs (d+5) 199 2 [some (.ref (420)), some (.int (nI 0))] [] (mk I J R Z) P = Wp L xs (d+5) 199 2 [some (.ref (420)), some (.int (nI k))] [] (mk (st I 422 (fun q => if 3 ≤ q ∧ q < 3 + k then nI 0 else I 422 q)) J R Z) P := by
    intro P k
    induction k with
    | zero =>
      intro _
      have : (fun q => if 3 ≤ q ∧ q < 3 + 0 then nI 0 else I 422 q) = I 422 := by funext q; rw [if_neg (by omega)]
      rw [this, st_id]
    | succ k ih =>
      intro hk
      rw [ih (by omega)]
      refine w199_2.trans ?_
      have q1 : upd (fun q => if 3 ≤ q ∧ q < 3 + k then nI 0 else I 422 q) (3 + k) (nI 0) = fun q => if 3 ≤ q ∧ q < 3 + (k + 1) then nI 0 else I 422 q := by
        funext q; unfold upd
        by_cases e : q = 3 + k
        · subst e; rw [if_pos rfl, if_pos (by omega)]
        · rw [if_neg e]
          dsimp only
          by_cases e2 : 3 ≤ q ∧ q < 3 + k
          · rw [if_pos e2, if_pos (by omega)]
          · rw [if_neg e2, if_neg (by omega)]
      simp (discharger := omega) only [↓w199_0, ↓w199_1, ↓w199_3, ↓w199_4, ↓w199_7, ↓w199_8, ↓w199_11, ↓w199_12, ↓w199_13, ↓w199_14, ↓w199_15, ↓w199_16, ↓w199_19, ↓w199_22, ↓w199_23, ↓w199_26, ↓w199_27, ↓w199_30, ↓w199_31, ↓w199_32, ↓w199_35, ↓w199_36, ↓w199_39, ↓w199_40, ↓w199_41, ↓w199_44, ↓w199_47, ↓w199_48, ↓w199_52, ↓w199_55, ↓w199_58, ↓w199_59, ↓w199_62, ↓w199_65, ↓w199_68, ↓w199_69, ↓w199_72, ↓w199_75, ↓w199_76, ↓w199_79, ↓w199_82, ↓w199_85, ↓w199_86, ↓w199_89, ↓w199_92, ↓w199_93, ↓w199_96, ↓w199_99, ↓w199_102, ↓w199_103, ↓w199_106, ↓w199_109, ↓w199_110, ↓w199_113, ↓w199_116, ↓w199_119, ↓w199_120, ↓w199_123, ↓w199_126, ↓w199_127, ↓w199_128, ↓w199_131, ↓w199_132, ↓w199_133, ↓w199_136, ↓w199_137, ↓w199_138, ↓w199_141, ↓w199_142, rc420, g420_0, p420_0, g420_1, p420_1, g420_2, g420_3, p420_3, g420_4, p420_4, g420_5, p420_5, g420_6, p420_6, g420_7, p420_7, g420_8, p420_8, g420_9, p420_9, g420_10, g420_11, g420_12, g420_13, g420_14, g420_15, g420_16, g420_17, g420_18, g420_19, p420_19, g420_20, g420_21, g420_22, g420_23, g420_24, g420_25, g420_26, g420_27, g420_28, g420_29, g420_30, g420_31, g420_32, p420_32, g420_33, g420_34, g420_35, g420_36, g420_37, g420_38, g420_39, g420_40, g420_41, g420_42, g420_43, g420_44, g420_45, g420_46, g420_47, p420_47, g420_48, g420_49, p420_49, gi422, si422, st_eq, st_st, q1, mul8, mul8', mul4, mul4', nI_add, inT, nclN, ltT, ltF, leT, leF, eqT, eqF, nzF, m1F, m1T, shr, shg, bI0, bI1, bo_bI, bo_1, bo_0, eq10, eq00, frT1, frT2, frT3, fit0, fit1, fit2, fit3, true_and, and_true, ↓reduceIte, Nat.reduceAdd, Nat.reduceMul, and_self, not_false_eq_true, not_true_eq_false, Nat.zero_add, Nat.add_zero]
  generalize hf3 : (fun q => if 3 ≤ q ∧ q < 3 + 3 then nI 0 else I 422 q) = f3
  generalize hI2 : st (st (st (st I 422 f3) 428 (upd (I 428) 1 (nI 1000))) 429 (upd (I 429) 1 (nI 1000))) 420 (upd (I 420) 19 (nI 1000)) = I2
  have a422 : I2 422 = f3 := by rw [← hI2, st_ne (by decide), st_ne (by decide), st_ne (by decide), st_eq]
  have a428 : I2 428 1 = nI 1000 := by rw [← hI2, st_ne (by decide), st_ne (by decide), st_eq, upd_eq]
  have a429 : I2 429 1 = nI 1000 := by rw [← hI2, st_ne (by decide), st_eq, upd_eq]
  have a420 : I2 420 = upd (I 420) 19 (nI 1000) := by rw [← hI2, st_eq]
  have ao : ∀ a, a ≠ 420 → a ≠ 422 → a ≠ 428 → a ≠ 429 → I2 a = I a := fun a x1 x2 x3 x4 => by rw [← hI2, st_ne x1, st_ne x4, st_ne x3, st_ne x2]
  obtain ⟨I3, J3, ⟨b1, b2, b3, b4, b5, b6⟩, b7⟩ := m_begins (L := L) (xs := xs) (R := R) (Z := Z) (J := J) (I := I2) hn (by rw [a420, upd_ne (by decide)]; exact h1) (fun k hk => by rw [ao 421 (by decide) (by decide) (by decide) (by decide)]; exact hs k hk)
  have hMD : MD I3 J3 g n F (0, 0, 0, fun _ => 0, 0) := by
    refine ⟨⟨?_, by show 0 < 10; omega⟩, ⟨?_, by show 0 < 10; omega⟩, ⟨?_, by show 0 ≤ 8; omega⟩, fun c hc => absurd hc (Nat.not_lt_zero c), by rw [b2 428 (by decide)]; exact a428, fun _ => ⟨by rw [b2 429 (by decide)]; exact a429, by rw [b3 19 (by decide) (by decide) (by decide) (by decide) (by decide) (by decide), a420, upd_eq]⟩, fun q => absurd rfl q⟩ <;> (rw [b2 422 (by decide), a422, ← hf3]; rfl)
  have hWD : WD g n F (0, 0, 0, fun _ => 0, 0) := ⟨Or.inl rfl, by show 0 ≤ 4; omega, by show 0 ≤ 8; omega, fun c hc => absurd hc (Nat.not_lt_zero c), fun z => absurd rfl z⟩
  obtain ⟨I4, J4, ⟨c1, c2, c3⟩, c4⟩ := m_all (L := L) (xs := xs) (d := d) (R := R) (Z := Z) hn hF hT1 hT2 K1 (0, 0, 0, fun _ => 0, 0) 0 I3 J3 (nI 3) (by omega) (Nat.zero_le _) b1 hMD hWD
  refine ⟨I4, J4, ⟨⟨⟨fun a x1 x2 x3 => ?_, fun k x1 x2 x3 x4 x5 x6 x7 x8 x9 => ?_, ?_⟩, ⟨fun k hk => ?_, fun a x1 x2 k hk => ?_⟩, fun k hk => ?_, fun a x1 x2 => ?_, fun k hk => ?_⟩, c2, c3⟩, fun P => ?_⟩
  · rw [c1.1.1 a x1 x2 x3, b2 a x1, ao a x1 x2 (by omega) (by omega)]
  · rw [c1.1.2 k x3 x4 x5 x6 x7 x8 x9, b3 k x1 x2 x3 x4 x5 x6, a420, upd_ne x8]
  · rw [c1.1.2 1 (by decide) (by decide) (by decide) (by decide) (by decide) (by decide) (by decide), b4]
  · rw [c1.2.1.1 k hk, b2 422 (by decide), a422, ← hf3]; dsimp only; rw [if_neg (by omega)]
  · rw [c1.2.1.2 a x1 x2 k hk, b2 a (by omega), ao a (by omega) (by omega) (by omega) (by omega)]
  · rw [c1.2.2.1 k hk, b5 423 (by decide)]
  · rw [c1.2.2.2.1 a x1 x2, b5 a x1]
  · rw [c1.2.2.2.2 k hk, b6 k hk]
  · have k3 := fun P => key P 3 (Nat.le_refl _)
    rw [hf3] at k3
    rw [← c4 P]
    have w0 : Wp L xs (d+5) 199 0 [some (.ref (420)), none] [] (mk I J R Z) P = Wp L xs (d+5) 199 2 [some (.ref (420)), some (.int (nI 0))] [] (mk I J R Z) P := by simp (discharger := omega) only [↓w199_0, ↓w199_1, ↓w199_3, ↓w199_4, ↓w199_7, ↓w199_8, ↓w199_11, ↓w199_12, ↓w199_13, ↓w199_14, ↓w199_15, ↓w199_16, ↓w199_19, ↓w199_22, ↓w199_23, ↓w199_26, ↓w199_27, ↓w199_30, ↓w199_31, ↓w199_32, ↓w199_35, ↓w199_36, ↓w199_39, ↓w199_40, ↓w199_41, ↓w199_44, ↓w199_47, ↓w199_48, ↓w199_52, ↓w199_55, ↓w199_58, ↓w199_59, ↓w199_62, ↓w199_65, ↓w199_68, ↓w199_69, ↓w199_72, ↓w199_75, ↓w199_76, ↓w199_79, ↓w199_82, ↓w199_85, ↓w199_86, ↓w199_89, ↓w199_92, ↓w199_93, ↓w199_96, ↓w199_99, ↓w199_102, ↓w199_103, ↓w199_106, ↓w199_109, ↓w199_110, ↓w199_113, ↓w199_116, ↓w199_119, ↓w199_120, ↓w199_123, ↓w199_126, ↓w199_127, ↓w199_128, ↓w199_131, ↓w199_132, ↓w199_133, ↓w199_136, ↓w199_137, ↓w199_138, ↓w199_141, ↓w199_142, mul8, mul8', mul4, mul4', nI_add, inT, nclN, ltT, ltF, leT, leF, eqT, eqF, nzF, m1F, m1T, shr, shg, bI0, bI1, bo_bI, bo_1, bo_0, eq10, eq00, frT1, frT2, frT3, fit0, fit1, fit2, fit3, true_and, and_true, ↓reduceIte, Nat.reduceAdd, Nat.reduceMul, and_self, not_false_eq_true, not_true_eq_false, Nat.zero_add, Nat.add_zero]
    rw [w0, k3]
    refine w199_2.trans ?_
    simp (discharger := omega) only [↓w199_0, ↓w199_1, ↓w199_3, ↓w199_4, ↓w199_7, ↓w199_8, ↓w199_11, ↓w199_12, ↓w199_13, ↓w199_14, ↓w199_15, ↓w199_16, ↓w199_19, ↓w199_22, ↓w199_23, ↓w199_26, ↓w199_27, ↓w199_30, ↓w199_31, ↓w199_32, ↓w199_35, ↓w199_36, ↓w199_39, ↓w199_40, ↓w199_41, ↓w199_44, ↓w199_47, ↓w199_48, ↓w199_52, ↓w199_55, ↓w199_58, ↓w199_59, ↓w199_62, ↓w199_65, ↓w199_68, ↓w199_69, ↓w199_72, ↓w199_75, ↓w199_76, ↓w199_79, ↓w199_82, ↓w199_85, ↓w199_86, ↓w199_89, ↓w199_92, ↓w199_93, ↓w199_96, ↓w199_99, ↓w199_102, ↓w199_103, ↓w199_106, ↓w199_109, ↓w199_110, ↓w199_113, ↓w199_116, ↓w199_119, ↓w199_120, ↓w199_123, ↓w199_126, ↓w199_127, ↓w199_128, ↓w199_131, ↓w199_132, ↓w199_133, ↓w199_136, ↓w199_137, ↓w199_138, ↓w199_141, ↓w199_142, rc420, g420_0, p420_0, g420_1, p420_1, g420_2, g420_3, p420_3, g420_4, p420_4, g420_5, p420_5, g420_6, p420_6, g420_7, p420_7, g420_8, p420_8, g420_9, p420_9, g420_10, g420_11, g420_12, g420_13, g420_14, g420_15, g420_16, g420_17, g420_18, g420_19, p420_19, g420_20, g420_21, g420_22, g420_23, g420_24, g420_25, g420_26, g420_27, g420_28, g420_29, g420_30, g420_31, g420_32, p420_32, g420_33, g420_34, g420_35, g420_36, g420_37, g420_38, g420_39, g420_40, g420_41, g420_42, g420_43, g420_44, g420_45, g420_46, g420_47, p420_47, g420_48, g420_49, p420_49, gi428, si428, gi429, si429, st_ne, hI2, ↓b7, ↓kc_i, ↓kc_l, ↓kc_r, ↓kc_n, mul8, mul8', mul4, mul4', nI_add, inT, nclN, ltT, ltF, leT, leF, eqT, eqF, nzF, m1F, m1T, shr, shg, bI0, bI1, bo_bI, bo_1, bo_0, eq10, eq00, frT1, frT2, frT3, fit0, fit1, fit2, fit3, true_and, and_true, ↓reduceIte, Nat.reduceAdd, Nat.reduceMul, and_self, not_false_eq_true, not_true_eq_false, Nat.zero_add, Nat.add_zero]
theorem pm_id (h : I 451 = row V) : pm I V = I := by unfold pm; rw [← h, st_id]
end N5
