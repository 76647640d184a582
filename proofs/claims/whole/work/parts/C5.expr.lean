/-! E: what is read (where it ends, the fault, the codes in the class's order, what it is worth) -/
abbrev Er : Type := Nat × Nat × List Int32 × ((Int32 → Int32) → Int32)
def jn (g : Nat → Nat) (n l i : Nat) : Int32 := if l = 0 then (if wd g n i = 8 then -6 else if wd g n i = 9 then -7 else nI 0) else if l = 1 then (if isSgn g n 60 i = true then -8 else if isSgn g n 61 i = true then -9 else nI 0) else if l = 2 then (if isSgn g n 43 i = true then -10 else if isSgn g n 45 i = true then -11 else nI 0) else (if isSgn g n 42 i = true then -12 else nI 0)
def jo (c a b : Int32) : Int32 := if c = -11 then a - b else if c = -10 then a + b else if c = -9 then bI (decide (a = b)) else if c = -8 then bI (decide (a < b)) else if c = -7 then bI (decide (¬ a = nI 0) || decide (¬ b = nI 0)) else if c = -6 then bI (decide (¬ a = nI 0) && decide (¬ b = nI 0)) else a * b
def isFc (g : Nat → Nat) (n i : Nat) : Bool := decide (wSo (wd g n i) = nI 3)
def lpE (g : Nat → Nat) (n l : Nat) (Q : Nat → Er) : Nat → Er → Er
  | 0, r => r
  | k + 1, r => if jn g n l r.1 = nI 0 ∨ r.2.1 ≠ 0 then r else lpE g n l Q k ((Q (r.1 + 1)).1, (Q (r.1 + 1)).2.1, r.2.2.1 ++ (Q (r.1 + 1)).2.2.1 ++ [jn g n l r.1], fun φ => jo (jn g n l r.1) (r.2.2.2 φ) ((Q (r.1 + 1)).2.2.2 φ))
def prtE (g : Nat → Nat) (n : Nat) (E0 N0 : Nat → Nat → Er) (dep i : Nat) : Er :=
  if kd g n i ≠ 2 ∧ isFc g n i = false ∧ wd g n i ≠ 7 ∧ isSgn g n 40 i = false then (i, 1 + 16 * bg g n i, [], fun _ => 0)
  else if 5 ≤ dep then (i, 5 + 16 * bg g n i, [], fun _ => 0)
  else if kd g n i = 2 then (i + 1, 0, [nI (vl g n i)], fun _ => nI (vl g n i))
  else if isFc g n i = true then (i + 1, 0, [wNu (wd g n i)], fun φ => φ (wNu (wd g n i)))
  else if wd g n i = 7 then ((N0 (dep + 1) (i + 1)).1, (N0 (dep + 1) (i + 1)).2.1, (N0 (dep + 1) (i + 1)).2.2.1 ++ [-5], fun φ => bI (decide ((N0 (dep + 1) (i + 1)).2.2.2 φ = nI 0)))
  else ((tkS g n 41 ((E0 (dep + 1) (i + 1)).1, (E0 (dep + 1) (i + 1)).2.1)).1, (tkS g n 41 ((E0 (dep + 1) (i + 1)).1, (E0 (dep + 1) (i + 1)).2.1)).2, (E0 (dep + 1) (i + 1)).2.2.1, (E0 (dep + 1) (i + 1)).2.2.2)
def rou (l : Nat) : Nat := if l = 1 then 1 else 1000
def pE (g : Nat → Nat) (n : Nat) : Nat → Nat → Nat → Nat → Er
  | 0, _, _, i => (i, 1 + 16 * bg g n i, [], fun _ => 0)
  | F + 1, l, dep, i => if 4 ≤ l then prtE g n (pE g n F 0) (pE g n F 4) dep i else lpE g n l (pE g n F (l + 1) dep) (rou l) (pE g n F (l + 1) dep i)
abbrev Lw : Type := Nat × (Nat → Int32)
def addL (l : Lw) (c : Int32) : Lw := if l.1 < 1000 then (l.1 + 1, upd l.2 l.1 c) else l
def adds (l : Lw) (cs : List Int32) : Lw := cs.foldl addL l
def lw (I : Mi) (l : Lw) : Mi := st (st I 73 (upd (I 73) 1 (nI l.1))) 74 l.2
def er (r : Er) : Rs := (r.1, r.2.1)
section G5
variable {L : Nat} {xs : Nat → Int32} {d : Nat} {P : Option Value → Hp → Prop} {I : Mi} {J : Mj} {R R' : Mr} {Z : Mz} {k n i p w b m x T lv dep F : Nat} {g : Nat → Nat} {s : Rs} {φ : Nat → Int32} {l : Lw} {c : Int32} {r : Er} {Q : Nat → Er}
theorem acT {a b : Nat} (h : a = b) : (a = b) = True := eq_true h
theorem acF {a b : Nat} (h : a ≠ b) : (a = b) = False := eq_false h
theorem adds_app {a b : List Int32} : adds l (a ++ b) = adds (adds l a) b := List.foldl_append
theorem adds_1 : adds l [c] = addL l c := rfl
theorem addL_le (h : l.1 ≤ 1000) : (addL l c).1 ≤ 1000 := by
  unfold addL; split
  · assumption
  · exact h
theorem adds_le {cs : List Int32} (h : l.1 ≤ 1000) : (adds l cs).1 ≤ 1000 := by
  induction cs generalizing l with
  | nil => exact h
  | cons a cs ih => exact ih (addL_le h)
theorem lw73 : lw I l 73 1 = nI l.1 := by unfold lw; rw [st_ne (by decide), st_eq, upd_eq]
theorem lw73' : lw I l 73 = upd (I 73) 1 (nI l.1) := by unfold lw; rw [st_ne (by decide), st_eq]
theorem lw74 : lw I l 74 = l.2 := by unfold lw; rw [st_eq]
theorem lwo {a : Nat} (h : a ≠ 73) (h' : a ≠ 74) : lw I l a = I a := by unfold lw; rw [st_ne h', st_ne h]
theorem lw_w {z : Nat} : st (st (lw I l) 74 φ) 73 (upd (upd (I 73) 1 (nI l.1)) 1 (nI z)) = lw I (z, φ) := by
  unfold lw
  funext q
  by_cases h1 : q = 73
  · subst h1; rw [st_eq, st_ne (by decide), st_eq, upd_upd]
  · rw [st_ne h1]
    by_cases h2 : q = 74
    · subst h2; rw [st_eq, st_eq]
    · rw [st_ne h2, st_ne h2, st_ne h1, st_ne h2, st_ne h1]
theorem cutT_cg {I' : Mi} {J' : Mj} (h : ∀ a, 65 ≤ a → a < 70 → I' a = I a) (hJ : J' 70 = J 70) (hR : R' 71 = R 71) (hT : cutT I J R g n T) : cutT I' J' R' g n T := by
  refine ⟨hT.1, hT.2.1, fun i hi => ?_, ?_⟩
  · have := hT.2.2.1 i hi
    unfold tkB at this ⊢
    rw [h 67 (by decide) (by decide), h 68 (by decide) (by decide), h 69 (by decide) (by decide), hJ, hR]
    exact this
  · rw [h 65 (by decide) (by decide)]; exact hT.2.2.2
theorem cutT_lw (hT : cutT I J R g n T) : cutT (lw I l) J R g n T := cutT_cg (fun a h1 h2 => lwo (by omega) (by omega)) rfl rfl hT
theorem al74 {I : Mi} {K : Int32 → Prop} : al L (mk I J R Z) 74 K = K (nI 1000) := alM (by decide) rfl (by decide)
theorem k_ladd (hl : l.1 ≤ 1000) : Wp L xs d 16 0 [some (.ref (73)), some (.int (c))] [] (mk (rd (lw I l) s) J R Z) P = P none (mk (rd (lw I (addL l c)) s) J R Z) := by
  unfold addL
  by_cases h : l.1 < 1000
  · rw [if_pos h]
    simp (discharger := omega) only [↓w16_0, ↓w16_1, ↓w16_4, ↓w16_5, ↓w16_8, ↓w16_9, ↓w16_12, ↓w16_13, ↓w16_16, ↓w16_17, ↓w16_20, ↓w16_21, ↓w16_22, ↓w16_23, ↓w16_24, ↓w16_27, ↓w16_28, ↓w16_29, ↓w16_32, rc73, g73_0, g73_1, p73_1, g73_2, g73_3, p73_3, gi74, si74, al74, rdo, lw73, lw73', lw74, rd_st, st_ne, lw_w, mul8, mul8', mul4, mul4', nI_add, inT, nclN, ltT, ltF, leT, leF, eqT, eqF, nzF, m1F, m1T, shr, shg, bI0, bI1, bo_bI, bo_1, bo_0, eq10, eq00, frT1, frT2, frT3, fit0, fit1, fit2, fit3, true_and, and_true, ↓reduceIte, Nat.reduceAdd, Nat.reduceMul, and_self, not_false_eq_true, not_true_eq_false, Nat.zero_add, Nat.add_zero]
  · rw [if_neg h]
    simp (discharger := omega) only [↓w16_0, ↓w16_1, ↓w16_4, ↓w16_5, ↓w16_8, ↓w16_9, ↓w16_12, ↓w16_13, ↓w16_16, ↓w16_17, ↓w16_20, ↓w16_21, ↓w16_22, ↓w16_23, ↓w16_24, ↓w16_27, ↓w16_28, ↓w16_29, ↓w16_32, rc73, g73_0, g73_1, p73_1, g73_2, g73_3, p73_3, gi74, si74, al74, rdo, lw73, mul8, mul8', mul4, mul4', nI_add, inT, nclN, ltT, ltF, leT, leF, eqT, eqF, nzF, m1F, m1T, shr, shg, bI0, bI1, bo_bI, bo_1, bo_0, eq10, eq00, frT1, frT2, frT3, fit0, fit1, fit2, fit3, true_and, and_true, ↓reduceIte, Nat.reduceAdd, Nat.reduceMul, and_self, not_false_eq_true, not_true_eq_false, Nat.zero_add, Nat.add_zero]
theorem k_joinerOf (hT : cutT I J R g n T) (hn : n ≤ 1000) (hs : okRs T s) (hl : lv ≤ 3) (hg : ∀ k, k < n → g k < 256) : Wp L xs (d+1) 36 0 [some (.ref (72)), some (.int (nI lv))] [] (mk (rd I s) J (rr R g n s.1) Z) P = P (some (.int (jn g n lv s.1))) (mk (rd I s) J (rr R g n s.1) Z) := by
  have sg := fun c (hc : c < 256) P => k_isSign (L := L) (xs := xs) (d := d) (P := P) (Z := Z) (c := c) hT hn hs hc hg
  have s60 := sg 60 (by decide)
  have s61 := sg 61 (by decide)
  have s43 := sg 43 (by decide)
  have s45 := sg 45 (by decide)
  have s42 := sg 42 (by decide)
  have hw := wd_lt (g := g) (n := n) (i := s.1)
  have gd : (rr R g n s.1 72 4).getD 29 = wd g n s.1 := by rw [rr72]; rfl
  unfold jn
  have hl4 : lv = 0 ∨ lv = 1 ∨ lv = 2 ∨ lv = 3 := by omega
  rcases hl4 with rfl | rfl | rfl | rfl
  · simp (discharger := omega) only [↓w36_0, ↓w36_1, ↓w36_28, ↓w36_29, ↓w36_32, ↓w36_35, ↓w36_38, ↓w36_40, ↓w36_43, ↓w36_44, ↓w36_47, ↓w36_50, ↓w36_53, ↓w36_55, ↓w36_58, ↓w36_59, ↓w36_60, ↓w36_61, ↓w36_63, ↓w36_66, ↓w36_69, ↓w36_71, ↓w36_74, ↓w36_75, ↓w36_77, ↓w36_80, ↓w36_83, ↓w36_85, ↓w36_88, ↓w36_89, ↓w36_90, ↓w36_91, ↓w36_93, ↓w36_96, ↓w36_99, ↓w36_101, ↓w36_104, ↓w36_105, ↓w36_107, ↓w36_110, ↓w36_113, ↓w36_115, ↓w36_118, ↓w36_119, ↓w36_120, ↓w36_121, ↓w36_123, ↓w36_126, ↓w36_129, ↓w36_131, ↓w36_134, ↓w36_135, rc72, g72_0, g72_1, g72_2, p72_2, g72_3, p72_3, g72_4, p72_4, g72_5, p72_5, gd, ↓kc_i, ↓kc_l, ↓kc_r, ↓kc_n, mul8, mul8', mul4, mul4', nI_add, inT, nclN, ltT, ltF, leT, leF, eqT, eqF, nzF, m1F, m1T, shr, shg, bI0, bI1, bo_bI, bo_1, bo_0, eq10, eq00, frT1, frT2, frT3, fit0, fit1, fit2, fit3, true_and, and_true, ↓reduceIte, Nat.reduceAdd, Nat.reduceMul, and_self, not_false_eq_true, not_true_eq_false, Nat.zero_add, Nat.add_zero]
    by_cases h8 : wd g n s.1 = 8
    · simp [h8]
    · by_cases h9 : wd g n s.1 = 9
      · simp [h9]
      · simp [h8, h9]
  · simp (discharger := omega) only [↓w36_0, ↓w36_1, ↓w36_28, ↓w36_29, ↓w36_32, ↓w36_35, ↓w36_38, ↓w36_40, ↓w36_43, ↓w36_44, ↓w36_47, ↓w36_50, ↓w36_53, ↓w36_55, ↓w36_58, ↓w36_59, ↓w36_60, ↓w36_61, ↓w36_63, ↓w36_66, ↓w36_69, ↓w36_71, ↓w36_74, ↓w36_75, ↓w36_77, ↓w36_80, ↓w36_83, ↓w36_85, ↓w36_88, ↓w36_89, ↓w36_90, ↓w36_91, ↓w36_93, ↓w36_96, ↓w36_99, ↓w36_101, ↓w36_104, ↓w36_105, ↓w36_107, ↓w36_110, ↓w36_113, ↓w36_115, ↓w36_118, ↓w36_119, ↓w36_120, ↓w36_121, ↓w36_123, ↓w36_126, ↓w36_129, ↓w36_131, ↓w36_134, ↓w36_135, rc72, g72_0, g72_1, g72_2, p72_2, g72_3, p72_3, g72_4, p72_4, g72_5, p72_5, ↓s60, ↓s61, ↓kc_i, ↓kc_l, ↓kc_r, ↓kc_n, mul8, mul8', mul4, mul4', nI_add, inT, nclN, ltT, ltF, leT, leF, eqT, eqF, nzF, m1F, m1T, shr, shg, bI0, bI1, bo_bI, bo_1, bo_0, eq10, eq00, frT1, frT2, frT3, fit0, fit1, fit2, fit3, true_and, and_true, ↓reduceIte, Nat.reduceAdd, Nat.reduceMul, and_self, not_false_eq_true, not_true_eq_false, Nat.zero_add, Nat.add_zero]
    cases isSgn g n 60 s.1 <;> cases isSgn g n 61 s.1 <;> simp
  · simp (discharger := omega) only [↓w36_0, ↓w36_1, ↓w36_28, ↓w36_29, ↓w36_32, ↓w36_35, ↓w36_38, ↓w36_40, ↓w36_43, ↓w36_44, ↓w36_47, ↓w36_50, ↓w36_53, ↓w36_55, ↓w36_58, ↓w36_59, ↓w36_60, ↓w36_61, ↓w36_63, ↓w36_66, ↓w36_69, ↓w36_71, ↓w36_74, ↓w36_75, ↓w36_77, ↓w36_80, ↓w36_83, ↓w36_85, ↓w36_88, ↓w36_89, ↓w36_90, ↓w36_91, ↓w36_93, ↓w36_96, ↓w36_99, ↓w36_101, ↓w36_104, ↓w36_105, ↓w36_107, ↓w36_110, ↓w36_113, ↓w36_115, ↓w36_118, ↓w36_119, ↓w36_120, ↓w36_121, ↓w36_123, ↓w36_126, ↓w36_129, ↓w36_131, ↓w36_134, ↓w36_135, rc72, g72_0, g72_1, g72_2, p72_2, g72_3, p72_3, g72_4, p72_4, g72_5, p72_5, ↓s43, ↓s45, ↓kc_i, ↓kc_l, ↓kc_r, ↓kc_n, mul8, mul8', mul4, mul4', nI_add, inT, nclN, ltT, ltF, leT, leF, eqT, eqF, nzF, m1F, m1T, shr, shg, bI0, bI1, bo_bI, bo_1, bo_0, eq10, eq00, frT1, frT2, frT3, fit0, fit1, fit2, fit3, true_and, and_true, ↓reduceIte, Nat.reduceAdd, Nat.reduceMul, and_self, not_false_eq_true, not_true_eq_false, Nat.zero_add, Nat.add_zero]
    cases isSgn g n 43 s.1 <;> cases isSgn g n 45 s.1 <;> simp
  · simp (discharger := omega) only [↓w36_0, ↓w36_1, ↓w36_28, ↓w36_29, ↓w36_32, ↓w36_35, ↓w36_38, ↓w36_40, ↓w36_43, ↓w36_44, ↓w36_47, ↓w36_50, ↓w36_53, ↓w36_55, ↓w36_58, ↓w36_59, ↓w36_60, ↓w36_61, ↓w36_63, ↓w36_66, ↓w36_69, ↓w36_71, ↓w36_74, ↓w36_75, ↓w36_77, ↓w36_80, ↓w36_83, ↓w36_85, ↓w36_88, ↓w36_89, ↓w36_90, ↓w36_91, ↓w36_93, ↓w36_96, ↓w36_99, ↓w36_101, ↓w36_104, ↓w36_105, ↓w36_107, ↓w36_110, ↓w36_113, ↓w36_115, ↓w36_118, ↓w36_119, ↓w36_120, ↓w36_121, ↓w36_123, ↓w36_126, ↓w36_129, ↓w36_131, ↓w36_134, ↓w36_135, rc72, g72_0, g72_1, g72_2, p72_2, g72_3, p72_3, g72_4, p72_4, g72_5, p72_5, ↓s42, ↓kc_i, ↓kc_l, ↓kc_r, ↓kc_n, mul8, mul8', mul4, mul4', nI_add, inT, nclN, ltT, ltF, leT, leF, eqT, eqF, nzF, m1F, m1T, shr, shg, bI0, bI1, bo_bI, bo_1, bo_0, eq10, eq00, frT1, frT2, frT3, fit0, fit1, fit2, fit3, true_and, and_true, ↓reduceIte, Nat.reduceAdd, Nat.reduceMul, and_self, not_false_eq_true, not_true_eq_false, Nat.zero_add, Nat.add_zero]
    cases isSgn g n 42 s.1 <;> simp
theorem jn_kd (h : jn g n lv i ≠ nI 0) : kd g n i ≠ 0 := by
  intro z
  have h1 : wd g n i = 29 := wd_29 (by rw [z]; decide)
  have h2 : ∀ c, isSgn g n c i = false := fun c => by unfold isSgn; rw [z]; rfl
  apply h
  unfold jn
  rw [h1, h2, h2, h2, h2, h2]
  simp
/-- the four sorts of a part's beginning -/
theorem fc_kd (h : isFc g n i = true) : kd g n i = 1 ∧ wd g n i ≠ 7 ∧ isSgn g n 40 i = false := by
  unfold isFc at h
  have h' := of_decide_eq_true h
  have h29 : wd g n i ≠ 29 := fun z => by rw [z] at h'; exact absurd h' (by decide)
  have h1 := wd_kd h29
  exact ⟨h1, fun z => by rw [z] at h'; exact absurd h' (by decide), by unfold isSgn; rw [h1]; rfl⟩
theorem nt_kd (h : wd g n i = 7) : kd g n i = 1 ∧ isFc g n i = false ∧ isSgn g n 40 i = false := by
  have h1 := wd_kd (g := g) (n := n) (i := i) (by rw [h]; decide)
  exact ⟨h1, by unfold isFc; rw [h]; decide, by unfold isSgn; rw [h1]; rfl⟩
theorem op_kd {c : Nat} (h : isSgn g n c i = true) : kd g n i = 3 ∧ isFc g n i = false ∧ wd g n i = 29 := by
  have h1 := (isSgn_k h).1
  have h2 : wd g n i = 29 := wd_29 (by rw [h1]; decide)
  exact ⟨h1, by unfold isFc; rw [h2]; decide, h2⟩
theorem nu_kd (h : kd g n i = 2) : isFc g n i = false ∧ wd g n i = 29 ∧ ∀ c, isSgn g n c i = false := by
  have h2 : wd g n i = 29 := wd_29 (by rw [h]; decide)
  exact ⟨by unfold isFc; rw [h2]; decide, h2, fun c => by unfold isSgn; rw [h]; rfl⟩
theorem lpE_ok (hT : cutT I J R g n T) (hQ : ∀ i, i ≤ T → okRs T (er (Q i))) : ∀ k r, okRs T (er r) → okRs T (er (lpE g n lv Q k r)) := by
  intro k
  induction k with
  | zero => intro r h; exact h
  | succ k ih =>
    intro r h
    unfold lpE
    split
    · exact h
    · rename_i q
      apply ih
      exact hQ _ ((cutT_lt hT h.1).mp (jn_kd (fun z => q (Or.inl z))))
theorem prtE_ok {E0 N0 : Nat → Nat → Er} (hT : cutT I J R g n T) (hn : n ≤ 1000) (hE : ∀ dep i, i ≤ T → okRs T (er (E0 dep i))) (hN : ∀ dep i, i ≤ T → okRs T (er (N0 dep i))) (hi : i ≤ T) : okRs T (er (prtE g n E0 N0 dep i)) := by
  have hb := bg_le (g := g) (n := n) (i := i)
  unfold prtE
  split
  · exact ⟨hi, by show 1 + 16 * bg g n i < 100000; omega⟩
  · rename_i q
    have hk : kd g n i ≠ 0 := fun z => q ⟨by rw [z]; decide, by unfold isFc; rw [wd_29 (by rw [z]; decide)]; decide, by rw [wd_29 (by rw [z]; decide)]; decide, by unfold isSgn; rw [z]; rfl⟩
    have hlt := (cutT_lt hT hi).mp hk
    split
    · exact ⟨hi, by show 5 + 16 * bg g n i < 100000; omega⟩
    · split
      · exact ⟨hlt, by show 0 < 100000; omega⟩
      · split
        · exact ⟨hlt, by show 0 < 100000; omega⟩
        · split
          · exact hN _ _ hlt
          · exact tkS_ok hT hn (hE (dep + 1) (i + 1) hlt)
theorem pE_ok (hT : cutT I J R g n T) (hn : n ≤ 1000) : ∀ F lv dep i, i ≤ T → okRs T (er (pE g n F lv dep i)) := by
  intro F
  induction F with
  | zero =>
    intro lv dep i hi
    have hb := bg_le (g := g) (n := n) (i := i)
    exact ⟨hi, by show 1 + 16 * bg g n i < 100000; omega⟩
  | succ F ih =>
    intro lv dep i hi
    unfold pE
    split
    · exact prtE_ok hT hn (fun dep i h => ih 0 dep i h) (fun dep i h => ih 4 dep i h) hi
    · exact lpE_ok hT (fun i h => ih _ _ i h) _ _ (ih _ _ i hi)
theorem k_prtE (hT : cutT I J R g n T) (hn : n ≤ 1000) (hg : ∀ k, k < n → g k < 256)
    (h35 : dep < 5 → ∀ i l P, i ≤ T → l.1 ≤ 1000 → Wp L xs d 35 0 [some (.ref (72)), some (.int (nI 0)), some (.int (nI (dep + 1))), none, none, none] [] (mk (rd (lw I l) (i, 0)) J (rr R g n i) Z) P = P none (mk (rd (lw I (adds l (pE g n F 0 (dep + 1) i).2.2.1)) (er (pE g n F 0 (dep + 1) i))) J (rr R g n (pE g n F 0 (dep + 1) i).1) Z))
    (h37 : dep < 5 → ∀ i l P, i ≤ T → l.1 ≤ 1000 → Wp L xs d 37 0 [some (.ref (72)), some (.int (nI (dep + 1))), none, none, none] [] (mk (rd (lw I l) (i, 0)) J (rr R g n i) Z) P = P none (mk (rd (lw I (adds l (pE g n F 4 (dep + 1) i).2.2.1)) (er (pE g n F 4 (dep + 1) i))) J (rr R g n (pE g n F 4 (dep + 1) i).1) Z))
    (hd : ∃ d', d = d' + 1) (hdep : dep ≤ 5) (hi : i ≤ T) (hl : l.1 ≤ 1000) : Wp L xs (d+1) 37 0 [some (.ref (72)), some (.int (nI dep)), none, none, none] [] (mk (rd (lw I l) (i, 0)) J (rr R g n i) Z) P = P none (mk (rd (lw I (adds l (pE g n (F + 1) 4 dep i).2.2.1)) (er (pE g n (F + 1) 4 dep i))) J (rr R g n (pE g n (F + 1) 4 dep i).1) Z) := by
  obtain ⟨d', rfl⟩ := hd
  have hT' : cutT (lw I l) J R g n T := cutT_lw hT
  have hTn := cutT_T hT
  have ok0 : okRs T (i, 0) := ⟨hi, by show 0 < 100000; omega⟩
  obtain ⟨h67, -, -, h69, -, -⟩ := hT'.2.2.1 i hi
  have hk4 := kd_4 (g := g) (n := n) (i := i)
  change lw I l 67 i = nI (cmk (kd g n i)) at h67
  change kd g n i = 2 → lw I l 69 i = nI (vl g n i) at h69
  have hw := wd_lt (g := g) (n := n) (i := i)
  have gd : (rr R g n i 72 4).getD 29 = wd g n i := by rw [rr72]; rfl
  have r26 := fun l0 l1 l2 l3 l4 P => w37_26 (L := L) (xs := xs) (d := d' + 1 + 1) (h := mk (rd (lw I l) (i, 0)) J (rr R g n i) Z) (P := P) (l0 := l0) (l1 := l1) (l2 := l2) (l3 := l3) (l4 := l4) (wdA hw) hw
  have r139 := fun l0 l1 l2 l3 l4 x P => w37_139 (L := L) (xs := xs) (d := d' + 1 + 1) (h := mk (rd (lw I l) (i, 0)) J (rr R g n i) Z) (P := P) (l0 := l0) (l1 := l1) (l2 := l2) (l3 := l3) (l4 := l4) (x1 := x) (wdA hw) hw
  have sg := fun P => k_isSign (L := L) (xs := xs) (d := d' + 1) (P := P) (Z := Z) (c := 40) (s := (i, 0)) hT' hn ok0 (by decide) hg
  have wr1 := fun P => k_wrong (L := L) (xs := xs) (d := d' + 1) (P := P) (Z := Z) (k := 1) (s := (i, 0)) hT' hn ok0 (by decide)
  have wr5 := fun P => k_wrong (L := L) (xs := xs) (d := d' + 1) (P := P) (Z := Z) (k := 5) (s := (i, 0)) hT' hn ok0 (by decide)
  rw [wr_0] at wr1 wr5
  have f1 : (nI (1 + 16 * bg g n i) = nI 0) = False := by
    have := bg_le (g := g) (n := n) (i := i)
    exact eqF (by omega) (by omega) (by omega)
  have f5 : (nI (5 + 16 * bg g n i) = nI 0) = False := by
    have := bg_le (g := g) (n := n) (i := i)
    exact eqF (by omega) (by omega) (by omega)
  have rw3 : ∀ I f, rd I (i, f) 72 3 = nI i := fun I f => rd72_3
  have rw5 : ∀ I f, rd I (i, f) 72 5 = nI f := fun I f => rd72_5
  refine w37_0.trans ?_
  rw [pE, if_pos (Nat.le_refl 4)]
  unfold prtE
  have fcE : ((wdv (wd g n i)).2.1 = nI 3) = (isFc g n i = true) := by unfold isFc wSo; simp
  by_cases hno : kd g n i ≠ 2 ∧ isFc g n i = false ∧ wd g n i ≠ 7 ∧ isSgn g n 40 i = false
  · obtain ⟨q1, q2, q3, q4⟩ := id hno
    rw [if_pos hno]
    simp (discharger := omega) only [↓w37_1, ↓w37_4, ↓w37_7, ↓w37_8, ↓w37_11, ↓w37_12, ↓w37_13, ↓w37_16, ↓w37_17, ↓w37_20, ↓w37_21, ↓w37_22, ↓w37_23, ↓w37_29, ↓w37_30, ↓w37_33, ↓w37_34, ↓w37_37, ↓w37_38, ↓w37_39, ↓w37_40, ↓w37_43, ↓w37_46, ↓w37_49, ↓w37_50, ↓w37_53, ↓w37_54, ↓w37_56, ↓w37_57, ↓w37_60, ↓w37_61, ↓w37_64, ↓w37_66, ↓w37_69, ↓w37_70, ↓w37_72, ↓w37_75, ↓w37_78, ↓w37_79, ↓w37_80, ↓w37_83, ↓w37_86, ↓w37_87, ↓w37_88, ↓w37_91, ↓w37_92, ↓w37_93, ↓w37_96, ↓w37_97, ↓w37_100, ↓w37_103, ↓w37_104, ↓w37_105, ↓w37_108, ↓w37_109, ↓w37_112, ↓w37_113, ↓w37_116, ↓w37_117, ↓w37_120, ↓w37_121, ↓w37_124, ↓w37_127, ↓w37_128, ↓w37_131, ↓w37_132, ↓w37_135, ↓w37_136, ↓w37_142, ↓w37_145, ↓w37_146, ↓w37_149, ↓w37_150, ↓w37_151, ↓w37_154, ↓w37_156, ↓w37_159, ↓w37_160, ↓w37_161, ↓w37_162, ↓w37_163, ↓w37_166, ↓w37_167, ↓w37_170, ↓w37_172, ↓w37_175, ↓w37_178, ↓w37_179, ↓w37_180, ↓w37_181, ↓w37_182, ↓w37_183, ↓w37_186, ↓w37_187, ↓w37_189, ↓w37_192, rc72, g72_0, g72_1, g72_2, p72_2, g72_3, p72_3, g72_4, p72_4, g72_5, p72_5, rc65, g65_0, g65_1, p65_1, g65_2, g65_3, g65_4, g65_5, g65_6, g65_7, p65_7, gi67, si67, rw3, rw5, rdo, h67, cmF2 hk4 q1, gd, ↓r26, wv1, fcE, q2, acT, acF, ↓sg, q4, bI_f, ↓wr1, f1, reduceCtorEq, ↓kc_i, ↓kc_l, ↓kc_r, ↓kc_n, mul8, mul8', mul4, mul4', nI_add, inT, nclN, ltT, ltF, leT, leF, eqT, eqF, nzF, m1F, m1T, shr, shg, bI0, bI1, bo_bI, bo_1, bo_0, eq10, eq00, frT1, frT2, frT3, fit0, fit1, fit2, fit3, true_and, and_true, ↓reduceIte, Nat.reduceAdd, Nat.reduceMul, and_self, not_false_eq_true, not_true_eq_false, Nat.zero_add, Nat.add_zero]
    exact Eq.refl _
  · rw [if_neg hno]
    by_cases h5 : 5 ≤ dep
    · rw [if_pos h5]
      by_cases q1 : kd g n i = 2
      · obtain ⟨q2, q3, q4⟩ := nu_kd q1
        have q4 := q4 40
        simp (discharger := omega) only [↓w37_1, ↓w37_4, ↓w37_7, ↓w37_8, ↓w37_11, ↓w37_12, ↓w37_13, ↓w37_16, ↓w37_17, ↓w37_20, ↓w37_21, ↓w37_22, ↓w37_23, ↓w37_29, ↓w37_30, ↓w37_33, ↓w37_34, ↓w37_37, ↓w37_38, ↓w37_39, ↓w37_40, ↓w37_43, ↓w37_46, ↓w37_49, ↓w37_50, ↓w37_53, ↓w37_54, ↓w37_56, ↓w37_57, ↓w37_60, ↓w37_61, ↓w37_64, ↓w37_66, ↓w37_69, ↓w37_70, ↓w37_72, ↓w37_75, ↓w37_78, ↓w37_79, ↓w37_80, ↓w37_83, ↓w37_86, ↓w37_87, ↓w37_88, ↓w37_91, ↓w37_92, ↓w37_93, ↓w37_96, ↓w37_97, ↓w37_100, ↓w37_103, ↓w37_104, ↓w37_105, ↓w37_108, ↓w37_109, ↓w37_112, ↓w37_113, ↓w37_116, ↓w37_117, ↓w37_120, ↓w37_121, ↓w37_124, ↓w37_127, ↓w37_128, ↓w37_131, ↓w37_132, ↓w37_135, ↓w37_136, ↓w37_142, ↓w37_145, ↓w37_146, ↓w37_149, ↓w37_150, ↓w37_151, ↓w37_154, ↓w37_156, ↓w37_159, ↓w37_160, ↓w37_161, ↓w37_162, ↓w37_163, ↓w37_166, ↓w37_167, ↓w37_170, ↓w37_172, ↓w37_175, ↓w37_178, ↓w37_179, ↓w37_180, ↓w37_181, ↓w37_182, ↓w37_183, ↓w37_186, ↓w37_187, ↓w37_189, ↓w37_192, rc72, g72_0, g72_1, g72_2, p72_2, g72_3, p72_3, g72_4, p72_4, g72_5, p72_5, rc65, g65_0, g65_1, p65_1, g65_2, g65_3, g65_4, g65_5, g65_6, g65_7, p65_7, gi67, si67, rw3, rw5, rdo, h67, cmT2 q1, gd, ↓r26, wv1, fcE, q2, acT, acF, ↓wr5, f5, reduceCtorEq, ↓kc_i, ↓kc_l, ↓kc_r, ↓kc_n, mul8, mul8', mul4, mul4', nI_add, inT, nclN, ltT, ltF, leT, leF, eqT, eqF, nzF, m1F, m1T, shr, shg, bI0, bI1, bo_bI, bo_1, bo_0, eq10, eq00, frT1, frT2, frT3, fit0, fit1, fit2, fit3, true_and, and_true, ↓reduceIte, Nat.reduceAdd, Nat.reduceMul, and_self, not_false_eq_true, not_true_eq_false, Nat.zero_add, Nat.add_zero]
        exact Eq.refl _
      · by_cases q2 : isFc g n i = true
        · obtain ⟨-, q3, q4⟩ := fc_kd q2
          simp (discharger := omega) only [↓w37_1, ↓w37_4, ↓w37_7, ↓w37_8, ↓w37_11, ↓w37_12, ↓w37_13, ↓w37_16, ↓w37_17, ↓w37_20, ↓w37_21, ↓w37_22, ↓w37_23, ↓w37_29, ↓w37_30, ↓w37_33, ↓w37_34, ↓w37_37, ↓w37_38, ↓w37_39, ↓w37_40, ↓w37_43, ↓w37_46, ↓w37_49, ↓w37_50, ↓w37_53, ↓w37_54, ↓w37_56, ↓w37_57, ↓w37_60, ↓w37_61, ↓w37_64, ↓w37_66, ↓w37_69, ↓w37_70, ↓w37_72, ↓w37_75, ↓w37_78, ↓w37_79, ↓w37_80, ↓w37_83, ↓w37_86, ↓w37_87, ↓w37_88, ↓w37_91, ↓w37_92, ↓w37_93, ↓w37_96, ↓w37_97, ↓w37_100, ↓w37_103, ↓w37_104, ↓w37_105, ↓w37_108, ↓w37_109, ↓w37_112, ↓w37_113, ↓w37_116, ↓w37_117, ↓w37_120, ↓w37_121, ↓w37_124, ↓w37_127, ↓w37_128, ↓w37_131, ↓w37_132, ↓w37_135, ↓w37_136, ↓w37_142, ↓w37_145, ↓w37_146, ↓w37_149, ↓w37_150, ↓w37_151, ↓w37_154, ↓w37_156, ↓w37_159, ↓w37_160, ↓w37_161, ↓w37_162, ↓w37_163, ↓w37_166, ↓w37_167, ↓w37_170, ↓w37_172, ↓w37_175, ↓w37_178, ↓w37_179, ↓w37_180, ↓w37_181, ↓w37_182, ↓w37_183, ↓w37_186, ↓w37_187, ↓w37_189, ↓w37_192, rc72, g72_0, g72_1, g72_2, p72_2, g72_3, p72_3, g72_4, p72_4, g72_5, p72_5, rc65, g65_0, g65_1, p65_1, g65_2, g65_3, g65_4, g65_5, g65_6, g65_7, p65_7, gi67, si67, rw3, rw5, rdo, h67, cmF2 hk4 q1, gd, ↓r26, wv1, fcE, q2, acT, acF, ↓wr5, f5, reduceCtorEq, ↓kc_i, ↓kc_l, ↓kc_r, ↓kc_n, mul8, mul8', mul4, mul4', nI_add, inT, nclN, ltT, ltF, leT, leF, eqT, eqF, nzF, m1F, m1T, shr, shg, bI0, bI1, bo_bI, bo_1, bo_0, eq10, eq00, frT1, frT2, frT3, fit0, fit1, fit2, fit3, true_and, and_true, ↓reduceIte, Nat.reduceAdd, Nat.reduceMul, and_self, not_false_eq_true, not_true_eq_false, Nat.zero_add, Nat.add_zero]
          exact Eq.refl _
        · have q2' := Bool.eq_false_iff.mpr q2
          by_cases q3 : wd g n i = 7
          · simp (discharger := omega) only [↓w37_1, ↓w37_4, ↓w37_7, ↓w37_8, ↓w37_11, ↓w37_12, ↓w37_13, ↓w37_16, ↓w37_17, ↓w37_20, ↓w37_21, ↓w37_22, ↓w37_23, ↓w37_29, ↓w37_30, ↓w37_33, ↓w37_34, ↓w37_37, ↓w37_38, ↓w37_39, ↓w37_40, ↓w37_43, ↓w37_46, ↓w37_49, ↓w37_50, ↓w37_53, ↓w37_54, ↓w37_56, ↓w37_57, ↓w37_60, ↓w37_61, ↓w37_64, ↓w37_66, ↓w37_69, ↓w37_70, ↓w37_72, ↓w37_75, ↓w37_78, ↓w37_79, ↓w37_80, ↓w37_83, ↓w37_86, ↓w37_87, ↓w37_88, ↓w37_91, ↓w37_92, ↓w37_93, ↓w37_96, ↓w37_97, ↓w37_100, ↓w37_103, ↓w37_104, ↓w37_105, ↓w37_108, ↓w37_109, ↓w37_112, ↓w37_113, ↓w37_116, ↓w37_117, ↓w37_120, ↓w37_121, ↓w37_124, ↓w37_127, ↓w37_128, ↓w37_131, ↓w37_132, ↓w37_135, ↓w37_136, ↓w37_142, ↓w37_145, ↓w37_146, ↓w37_149, ↓w37_150, ↓w37_151, ↓w37_154, ↓w37_156, ↓w37_159, ↓w37_160, ↓w37_161, ↓w37_162, ↓w37_163, ↓w37_166, ↓w37_167, ↓w37_170, ↓w37_172, ↓w37_175, ↓w37_178, ↓w37_179, ↓w37_180, ↓w37_181, ↓w37_182, ↓w37_183, ↓w37_186, ↓w37_187, ↓w37_189, ↓w37_192, rc72, g72_0, g72_1, g72_2, p72_2, g72_3, p72_3, g72_4, p72_4, g72_5, p72_5, rc65, g65_0, g65_1, p65_1, g65_2, g65_3, g65_4, g65_5, g65_6, g65_7, p65_7, gi67, si67, rw3, rw5, rdo, h67, cmF2 hk4 q1, gd, ↓r26, wv1, fcE, q2', acT, acF, ↓wr5, f5, reduceCtorEq, ↓kc_i, ↓kc_l, ↓kc_r, ↓kc_n, mul8, mul8', mul4, mul4', nI_add, inT, nclN, ltT, ltF, leT, leF, eqT, eqF, nzF, m1F, m1T, shr, shg, bI0, bI1, bo_bI, bo_1, bo_0, eq10, eq00, frT1, frT2, frT3, fit0, fit1, fit2, fit3, true_and, and_true, ↓reduceIte, Nat.reduceAdd, Nat.reduceMul, and_self, not_false_eq_true, not_true_eq_false, Nat.zero_add, Nat.add_zero]
            exact Eq.refl _
          · have q4 : isSgn g n 40 i = true := by
              cases h : isSgn g n 40 i
              · exact absurd ⟨q1, q2', q3, h⟩ hno
              · rfl
            simp (discharger := omega) only [↓w37_1, ↓w37_4, ↓w37_7, ↓w37_8, ↓w37_11, ↓w37_12, ↓w37_13, ↓w37_16, ↓w37_17, ↓w37_20, ↓w37_21, ↓w37_22, ↓w37_23, ↓w37_29, ↓w37_30, ↓w37_33, ↓w37_34, ↓w37_37, ↓w37_38, ↓w37_39, ↓w37_40, ↓w37_43, ↓w37_46, ↓w37_49, ↓w37_50, ↓w37_53, ↓w37_54, ↓w37_56, ↓w37_57, ↓w37_60, ↓w37_61, ↓w37_64, ↓w37_66, ↓w37_69, ↓w37_70, ↓w37_72, ↓w37_75, ↓w37_78, ↓w37_79, ↓w37_80, ↓w37_83, ↓w37_86, ↓w37_87, ↓w37_88, ↓w37_91, ↓w37_92, ↓w37_93, ↓w37_96, ↓w37_97, ↓w37_100, ↓w37_103, ↓w37_104, ↓w37_105, ↓w37_108, ↓w37_109, ↓w37_112, ↓w37_113, ↓w37_116, ↓w37_117, ↓w37_120, ↓w37_121, ↓w37_124, ↓w37_127, ↓w37_128, ↓w37_131, ↓w37_132, ↓w37_135, ↓w37_136, ↓w37_142, ↓w37_145, ↓w37_146, ↓w37_149, ↓w37_150, ↓w37_151, ↓w37_154, ↓w37_156, ↓w37_159, ↓w37_160, ↓w37_161, ↓w37_162, ↓w37_163, ↓w37_166, ↓w37_167, ↓w37_170, ↓w37_172, ↓w37_175, ↓w37_178, ↓w37_179, ↓w37_180, ↓w37_181, ↓w37_182, ↓w37_183, ↓w37_186, ↓w37_187, ↓w37_189, ↓w37_192, rc72, g72_0, g72_1, g72_2, p72_2, g72_3, p72_3, g72_4, p72_4, g72_5, p72_5, rc65, g65_0, g65_1, p65_1, g65_2, g65_3, g65_4, g65_5, g65_6, g65_7, p65_7, gi67, si67, rw3, rw5, rdo, h67, cmF2 hk4 q1, gd, ↓r26, wv1, fcE, q2', acT, acF, ↓sg, q4, bI_t, ↓wr5, f5, reduceCtorEq, ↓kc_i, ↓kc_l, ↓kc_r, ↓kc_n, mul8, mul8', mul4, mul4', nI_add, inT, nclN, ltT, ltF, leT, leF, eqT, eqF, nzF, m1F, m1T, shr, shg, bI0, bI1, bo_bI, bo_1, bo_0, eq10, eq00, frT1, frT2, frT3, fit0, fit1, fit2, fit3, true_and, and_true, ↓reduceIte, Nat.reduceAdd, Nat.reduceMul, and_self, not_false_eq_true, not_true_eq_false, Nat.zero_add, Nat.add_zero]
            exact Eq.refl _
    · rw [if_neg h5]
      by_cases q1 : kd g n i = 2
      · obtain ⟨q2, q3, q4⟩ := nu_kd q1
        have q4 := q4 40
        have h69' := h69 q1
        have la := fun P => k_ladd (L := L) (xs := xs) (d := d' + 1) (P := P) (I := I) (J := J) (R := rr R g n i) (Z := Z) (s := (i, 0)) (c := nI (vl g n i)) hl
        have av := fun P => k_advance (L := L) (xs := xs) (d := d' + 1) (P := P) (Z := Z) (s := (i, 0)) (cutT_lw (l := addL l (nI (vl g n i))) hT) hn ok0
        rw [ad_0 (by rw [q1]; decide)] at av
        rw [if_pos q1, adds_1]
        simp (discharger := omega) only [↓w37_1, ↓w37_4, ↓w37_7, ↓w37_8, ↓w37_11, ↓w37_12, ↓w37_13, ↓w37_16, ↓w37_17, ↓w37_20, ↓w37_21, ↓w37_22, ↓w37_23, ↓w37_29, ↓w37_30, ↓w37_33, ↓w37_34, ↓w37_37, ↓w37_38, ↓w37_39, ↓w37_40, ↓w37_43, ↓w37_46, ↓w37_49, ↓w37_50, ↓w37_53, ↓w37_54, ↓w37_56, ↓w37_57, ↓w37_60, ↓w37_61, ↓w37_64, ↓w37_66, ↓w37_69, ↓w37_70, ↓w37_72, ↓w37_75, ↓w37_78, ↓w37_79, ↓w37_80, ↓w37_83, ↓w37_86, ↓w37_87, ↓w37_88, ↓w37_91, ↓w37_92, ↓w37_93, ↓w37_96, ↓w37_97, ↓w37_100, ↓w37_103, ↓w37_104, ↓w37_105, ↓w37_108, ↓w37_109, ↓w37_112, ↓w37_113, ↓w37_116, ↓w37_117, ↓w37_120, ↓w37_121, ↓w37_124, ↓w37_127, ↓w37_128, ↓w37_131, ↓w37_132, ↓w37_135, ↓w37_136, ↓w37_142, ↓w37_145, ↓w37_146, ↓w37_149, ↓w37_150, ↓w37_151, ↓w37_154, ↓w37_156, ↓w37_159, ↓w37_160, ↓w37_161, ↓w37_162, ↓w37_163, ↓w37_166, ↓w37_167, ↓w37_170, ↓w37_172, ↓w37_175, ↓w37_178, ↓w37_179, ↓w37_180, ↓w37_181, ↓w37_182, ↓w37_183, ↓w37_186, ↓w37_187, ↓w37_189, ↓w37_192, rc72, g72_0, g72_1, g72_2, p72_2, g72_3, p72_3, g72_4, p72_4, g72_5, p72_5, rc65, g65_0, g65_1, p65_1, g65_2, g65_3, g65_4, g65_5, g65_6, g65_7, p65_7, gi67, si67, gi69, si69, rc73, g73_0, g73_1, p73_1, g73_2, g73_3, p73_3, rw3, rw5, rdo, h67, h69', cmT2 q1, gd, ↓r26, wv1, fcE, q2, acT, acF, ↓la, ↓av, reduceCtorEq, ↓kc_i, ↓kc_l, ↓kc_r, ↓kc_n, mul8, mul8', mul4, mul4', nI_add, inT, nclN, ltT, ltF, leT, leF, eqT, eqF, nzF, m1F, m1T, shr, shg, bI0, bI1, bo_bI, bo_1, bo_0, eq10, eq00, frT1, frT2, frT3, fit0, fit1, fit2, fit3, true_and, and_true, ↓reduceIte, Nat.reduceAdd, Nat.reduceMul, and_self, not_false_eq_true, not_true_eq_false, Nat.zero_add, Nat.add_zero]
        exact Eq.refl _
      · rw [if_neg q1]
        by_cases q2 : isFc g n i = true
        · obtain ⟨q0, q3, q4⟩ := fc_kd q2
          have la := fun P => k_ladd (L := L) (xs := xs) (d := d' + 1) (P := P) (I := I) (J := J) (R := rr R g n i) (Z := Z) (s := (i, 0)) (c := wNu (wd g n i)) hl
          have av := fun P => k_advance (L := L) (xs := xs) (d := d' + 1) (P := P) (Z := Z) (s := (i, 0)) (cutT_lw (l := addL l (wNu (wd g n i))) hT) hn ok0
          rw [ad_0 (by rw [q0]; decide)] at av
          have e2 : (wdv (wd g n i)).2.2 = wNu (wd g n i) := rfl
          rw [if_pos q2, adds_1]
          simp (discharger := omega) only [↓w37_1, ↓w37_4, ↓w37_7, ↓w37_8, ↓w37_11, ↓w37_12, ↓w37_13, ↓w37_16, ↓w37_17, ↓w37_20, ↓w37_21, ↓w37_22, ↓w37_23, ↓w37_29, ↓w37_30, ↓w37_33, ↓w37_34, ↓w37_37, ↓w37_38, ↓w37_39, ↓w37_40, ↓w37_43, ↓w37_46, ↓w37_49, ↓w37_50, ↓w37_53, ↓w37_54, ↓w37_56, ↓w37_57, ↓w37_60, ↓w37_61, ↓w37_64, ↓w37_66, ↓w37_69, ↓w37_70, ↓w37_72, ↓w37_75, ↓w37_78, ↓w37_79, ↓w37_80, ↓w37_83, ↓w37_86, ↓w37_87, ↓w37_88, ↓w37_91, ↓w37_92, ↓w37_93, ↓w37_96, ↓w37_97, ↓w37_100, ↓w37_103, ↓w37_104, ↓w37_105, ↓w37_108, ↓w37_109, ↓w37_112, ↓w37_113, ↓w37_116, ↓w37_117, ↓w37_120, ↓w37_121, ↓w37_124, ↓w37_127, ↓w37_128, ↓w37_131, ↓w37_132, ↓w37_135, ↓w37_136, ↓w37_142, ↓w37_145, ↓w37_146, ↓w37_149, ↓w37_150, ↓w37_151, ↓w37_154, ↓w37_156, ↓w37_159, ↓w37_160, ↓w37_161, ↓w37_162, ↓w37_163, ↓w37_166, ↓w37_167, ↓w37_170, ↓w37_172, ↓w37_175, ↓w37_178, ↓w37_179, ↓w37_180, ↓w37_181, ↓w37_182, ↓w37_183, ↓w37_186, ↓w37_187, ↓w37_189, ↓w37_192, rc72, g72_0, g72_1, g72_2, p72_2, g72_3, p72_3, g72_4, p72_4, g72_5, p72_5, rc65, g65_0, g65_1, p65_1, g65_2, g65_3, g65_4, g65_5, g65_6, g65_7, p65_7, gi67, si67, gi69, si69, rc73, g73_0, g73_1, p73_1, g73_2, g73_3, p73_3, rw3, rw5, rdo, h67, cmF2 hk4 q1, gd, ↓r26, ↓r139, wv1, wv2, e2, fcE, q2, acT, acF, ↓la, ↓av, reduceCtorEq, ↓kc_i, ↓kc_l, ↓kc_r, ↓kc_n, mul8, mul8', mul4, mul4', nI_add, inT, nclN, ltT, ltF, leT, leF, eqT, eqF, nzF, m1F, m1T, shr, shg, bI0, bI1, bo_bI, bo_1, bo_0, eq10, eq00, frT1, frT2, frT3, fit0, fit1, fit2, fit3, true_and, and_true, ↓reduceIte, Nat.reduceAdd, Nat.reduceMul, and_self, not_false_eq_true, not_true_eq_false, Nat.zero_add, Nat.add_zero]
          exact Eq.refl _
        · have q2' := Bool.eq_false_iff.mpr q2
          rw [if_neg q2]
          have av := fun P => k_advance (L := L) (xs := xs) (d := d' + 1) (P := P) (Z := Z) (s := (i, 0)) hT' hn ok0
          by_cases q3 : wd g n i = 7
          · have q0 := (nt_kd q3).1
            rw [ad_0 (by rw [q0]; decide)] at av
            have hlt : i < T := (cutT_lt hT hi).mp (by rw [q0]; decide)
            have h7 := fun P => h37 (by omega) (i + 1) l P (by omega) hl
            have la := fun P => k_ladd (L := L) (xs := xs) (d := d' + 1) (P := P) (I := I) (J := J) (R := rr R g n (pE g n F 4 (dep + 1) (i + 1)).1) (Z := Z) (s := er (pE g n F 4 (dep + 1) (i + 1))) (c := -5) (adds_le (cs := (pE g n F 4 (dep + 1) (i + 1)).2.2.1) hl)
            rw [if_pos q3]
            rw [adds_app, adds_1]
            simp (discharger := omega) only [↓w37_1, ↓w37_4, ↓w37_7, ↓w37_8, ↓w37_11, ↓w37_12, ↓w37_13, ↓w37_16, ↓w37_17, ↓w37_20, ↓w37_21, ↓w37_22, ↓w37_23, ↓w37_29, ↓w37_30, ↓w37_33, ↓w37_34, ↓w37_37, ↓w37_38, ↓w37_39, ↓w37_40, ↓w37_43, ↓w37_46, ↓w37_49, ↓w37_50, ↓w37_53, ↓w37_54, ↓w37_56, ↓w37_57, ↓w37_60, ↓w37_61, ↓w37_64, ↓w37_66, ↓w37_69, ↓w37_70, ↓w37_72, ↓w37_75, ↓w37_78, ↓w37_79, ↓w37_80, ↓w37_83, ↓w37_86, ↓w37_87, ↓w37_88, ↓w37_91, ↓w37_92, ↓w37_93, ↓w37_96, ↓w37_97, ↓w37_100, ↓w37_103, ↓w37_104, ↓w37_105, ↓w37_108, ↓w37_109, ↓w37_112, ↓w37_113, ↓w37_116, ↓w37_117, ↓w37_120, ↓w37_121, ↓w37_124, ↓w37_127, ↓w37_128, ↓w37_131, ↓w37_132, ↓w37_135, ↓w37_136, ↓w37_142, ↓w37_145, ↓w37_146, ↓w37_149, ↓w37_150, ↓w37_151, ↓w37_154, ↓w37_156, ↓w37_159, ↓w37_160, ↓w37_161, ↓w37_162, ↓w37_163, ↓w37_166, ↓w37_167, ↓w37_170, ↓w37_172, ↓w37_175, ↓w37_178, ↓w37_179, ↓w37_180, ↓w37_181, ↓w37_182, ↓w37_183, ↓w37_186, ↓w37_187, ↓w37_189, ↓w37_192, rc72, g72_0, g72_1, g72_2, p72_2, g72_3, p72_3, g72_4, p72_4, g72_5, p72_5, rc65, g65_0, g65_1, p65_1, g65_2, g65_3, g65_4, g65_5, g65_6, g65_7, p65_7, gi67, si67, rc73, g73_0, g73_1, p73_1, g73_2, g73_3, p73_3, rw3, rw5, rdo, h67, cmF2 hk4 q1, gd, ↓r26, wv1, fcE, q2', acT, acF, ↓av, ↓h7, ↓la, reduceCtorEq, ↓kc_i, ↓kc_l, ↓kc_r, ↓kc_n, mul8, mul8', mul4, mul4', nI_add, inT, nclN, ltT, ltF, leT, leF, eqT, eqF, nzF, m1F, m1T, shr, shg, bI0, bI1, bo_bI, bo_1, bo_0, eq10, eq00, frT1, frT2, frT3, fit0, fit1, fit2, fit3, true_and, and_true, ↓reduceIte, Nat.reduceAdd, Nat.reduceMul, and_self, not_false_eq_true, not_true_eq_false, Nat.zero_add, Nat.add_zero]
            exact Eq.refl _
          · have q4 : isSgn g n 40 i = true := by
              cases h : isSgn g n 40 i
              · exact absurd ⟨q1, q2', q3, h⟩ hno
              · rfl
            have q0 := (isSgn_k q4).1
            rw [ad_0 (by rw [q0]; decide)] at av
            have hlt : i < T := (cutT_lt hT hi).mp (by rw [q0]; decide)
            have h5' := fun P => h35 (by omega) (i + 1) l P (by omega) hl
            have ts := fun P => k_takeSign (L := L) (xs := xs) (d := d') (P := P) (Z := Z) (s := er (pE g n F 0 (dep + 1) (i + 1))) (c := 41) (cutT_lw (l := adds l (pE g n F 0 (dep + 1) (i + 1)).2.2.1) hT) hn (pE_ok hT hn _ _ _ _ (by omega)) (by decide) hg
            rw [if_neg q3]
            simp (discharger := omega) only [↓w37_1, ↓w37_4, ↓w37_7, ↓w37_8, ↓w37_11, ↓w37_12, ↓w37_13, ↓w37_16, ↓w37_17, ↓w37_20, ↓w37_21, ↓w37_22, ↓w37_23, ↓w37_29, ↓w37_30, ↓w37_33, ↓w37_34, ↓w37_37, ↓w37_38, ↓w37_39, ↓w37_40, ↓w37_43, ↓w37_46, ↓w37_49, ↓w37_50, ↓w37_53, ↓w37_54, ↓w37_56, ↓w37_57, ↓w37_60, ↓w37_61, ↓w37_64, ↓w37_66, ↓w37_69, ↓w37_70, ↓w37_72, ↓w37_75, ↓w37_78, ↓w37_79, ↓w37_80, ↓w37_83, ↓w37_86, ↓w37_87, ↓w37_88, ↓w37_91, ↓w37_92, ↓w37_93, ↓w37_96, ↓w37_97, ↓w37_100, ↓w37_103, ↓w37_104, ↓w37_105, ↓w37_108, ↓w37_109, ↓w37_112, ↓w37_113, ↓w37_116, ↓w37_117, ↓w37_120, ↓w37_121, ↓w37_124, ↓w37_127, ↓w37_128, ↓w37_131, ↓w37_132, ↓w37_135, ↓w37_136, ↓w37_142, ↓w37_145, ↓w37_146, ↓w37_149, ↓w37_150, ↓w37_151, ↓w37_154, ↓w37_156, ↓w37_159, ↓w37_160, ↓w37_161, ↓w37_162, ↓w37_163, ↓w37_166, ↓w37_167, ↓w37_170, ↓w37_172, ↓w37_175, ↓w37_178, ↓w37_179, ↓w37_180, ↓w37_181, ↓w37_182, ↓w37_183, ↓w37_186, ↓w37_187, ↓w37_189, ↓w37_192, rc72, g72_0, g72_1, g72_2, p72_2, g72_3, p72_3, g72_4, p72_4, g72_5, p72_5, rc65, g65_0, g65_1, p65_1, g65_2, g65_3, g65_4, g65_5, g65_6, g65_7, p65_7, gi67, si67, rc73, g73_0, g73_1, p73_1, g73_2, g73_3, p73_3, rw3, rw5, rdo, h67, cmF2 hk4 q1, gd, ↓r26, wv1, fcE, q2', acT, acF, ↓sg, q4, bI_t, ↓av, ↓h5', reduceCtorEq, ↓kc_i, ↓kc_l, ↓kc_r, ↓kc_n, mul8, mul8', mul4, mul4', nI_add, inT, nclN, ltT, ltF, leT, leF, eqT, eqF, nzF, m1F, m1T, shr, shg, bI0, bI1, bo_bI, bo_1, bo_0, eq10, eq00, frT1, frT2, frT3, fit0, fit1, fit2, fit3, true_and, and_true, ↓reduceIte, Nat.reduceAdd, Nat.reduceMul, and_self, not_false_eq_true, not_true_eq_false, Nat.zero_add, Nat.add_zero]
            refine (ts _).trans ?_
            simp (discharger := omega) only [↓w37_1, ↓w37_4, ↓w37_7, ↓w37_8, ↓w37_11, ↓w37_12, ↓w37_13, ↓w37_16, ↓w37_17, ↓w37_20, ↓w37_21, ↓w37_22, ↓w37_23, ↓w37_29, ↓w37_30, ↓w37_33, ↓w37_34, ↓w37_37, ↓w37_38, ↓w37_39, ↓w37_40, ↓w37_43, ↓w37_46, ↓w37_49, ↓w37_50, ↓w37_53, ↓w37_54, ↓w37_56, ↓w37_57, ↓w37_60, ↓w37_61, ↓w37_64, ↓w37_66, ↓w37_69, ↓w37_70, ↓w37_72, ↓w37_75, ↓w37_78, ↓w37_79, ↓w37_80, ↓w37_83, ↓w37_86, ↓w37_87, ↓w37_88, ↓w37_91, ↓w37_92, ↓w37_93, ↓w37_96, ↓w37_97, ↓w37_100, ↓w37_103, ↓w37_104, ↓w37_105, ↓w37_108, ↓w37_109, ↓w37_112, ↓w37_113, ↓w37_116, ↓w37_117, ↓w37_120, ↓w37_121, ↓w37_124, ↓w37_127, ↓w37_128, ↓w37_131, ↓w37_132, ↓w37_135, ↓w37_136, ↓w37_142, ↓w37_145, ↓w37_146, ↓w37_149, ↓w37_150, ↓w37_151, ↓w37_154, ↓w37_156, ↓w37_159, ↓w37_160, ↓w37_161, ↓w37_162, ↓w37_163, ↓w37_166, ↓w37_167, ↓w37_170, ↓w37_172, ↓w37_175, ↓w37_178, ↓w37_179, ↓w37_180, ↓w37_181, ↓w37_182, ↓w37_183, ↓w37_186, ↓w37_187, ↓w37_189, ↓w37_192, ↓kc_i, ↓kc_l, ↓kc_r, ↓kc_n]
            exact Eq.refl _
theorem k_levels (hT : cutT I J R g n T) (hn : n ≤ 1000) (hg : ∀ k, k < n → g k < 256) : ∀ F, (∀ d lv dep i l P, lv ≤ 4 → dep ≤ 5 → i ≤ T → l.1 ≤ 1000 → 5 * (5 - dep) + (4 - lv) < F → Wp L xs (d+2*F+4) 35 0 [some (.ref (72)), some (.int (nI lv)), some (.int (nI dep)), none, none, none] [] (mk (rd (lw I l) (i, 0)) J (rr R g n i) Z) P = P none (mk (rd (lw I (adds l (pE g n F lv dep i).2.2.1)) (er (pE g n F lv dep i))) J (rr R g n (pE g n F lv dep i).1) Z)) ∧ (∀ d dep i l P, dep ≤ 5 → i ≤ T → l.1 ≤ 1000 → 5 * (5 - dep) < F → Wp L xs (d+2*F+3) 37 0 [some (.ref (72)), some (.int (nI dep)), none, none, none] [] (mk (rd (lw I l) (i, 0)) J (rr R g n i) Z) P = P none (mk (rd (lw I (adds l (pE g n F 4 dep i).2.2.1)) (er (pE g n F 4 dep i))) J (rr R g n (pE g n F 4 dep i).1) Z)) := by
  intro F
  induction F with
  | zero => exact ⟨fun d lv dep i l P _ _ _ _ h => by omega, fun d dep i l P _ _ _ h => by omega⟩
  | succ F ih =>
    have A : ∀ d dep i l P, dep ≤ 5 → i ≤ T → l.1 ≤ 1000 → 5 * (5 - dep) < F + 1 → Wp L xs (d+2*(F+1)+3) 37 0 [some (.ref (72)), some (.int (nI dep)), none, none, none] [] (mk (rd (lw I l) (i, 0)) J (rr R g n i) Z) P = P none (mk (rd (lw I (adds l (pE g n (F + 1) 4 dep i).2.2.1)) (er (pE g n (F + 1) 4 dep i))) J (rr R g n (pE g n (F + 1) 4 dep i).1) Z) := by
      intro d dep i l P hdep hi hl hF
      refine k_prtE (d := d + 2 * F + 4) hT hn hg (fun h5 i l P hi hl => ih.1 d 0 (dep + 1) i l P (by decide) (by omega) hi hl (by omega)) (fun h5 i l P hi hl => ?_) ⟨d + 2 * F + 3, rfl⟩ hdep hi hl
      have := ih.2 (d + 1) (dep + 1) i l P (by omega) hi hl (by omega)
      rw [show d + 1 + 2 * F + 3 = d + 2 * F + 4 by omega] at this
      exact this
    refine ⟨fun d lv dep i l P hlv hdep hi hl hF => ?_, A⟩
    by_cases h4 : lv = 4
    · subst h4
      have a1 := fun P => A d dep i l P hdep hi hl (by omega)
      refine w35_0.trans ?_
      simp (discharger := omega) only [↓w35_1, ↓w35_2, ↓w35_5, ↓w35_6, ↓w35_7, ↓w35_10, ↓w35_11, ↓w35_12, ↓w35_13, ↓w35_14, ↓w35_15, ↓w35_16, ↓w35_19, ↓w35_20, ↓w35_21, ↓w35_24, ↓w35_25, ↓w35_28, ↓w35_31, ↓w35_32, ↓w35_33, ↓w35_37, ↓w35_38, ↓w35_41, ↓w35_42, ↓w35_43, ↓w35_46, ↓w35_48, ↓w35_50, ↓w35_53, ↓w35_54, ↓w35_57, ↓w35_60, ↓w35_61, ↓w35_62, ↓w35_65, ↓w35_66, ↓w35_67, ↓w35_68, ↓w35_69, ↓w35_70, ↓w35_73, ↓w35_74, ↓w35_77, ↓w35_79, ↓w35_82, ↓w35_85, ↓w35_88, rc72, g72_0, g72_1, g72_2, p72_2, g72_3, p72_3, g72_4, p72_4, g72_5, p72_5, ↓a1, ↓kc_i, ↓kc_l, ↓kc_r, ↓kc_n, mul8, mul8', mul4, mul4', nI_add, inT, nclN, ltT, ltF, leT, leF, eqT, eqF, nzF, m1F, m1T, shr, shg, bI0, bI1, bo_bI, bo_1, bo_0, eq10, eq00, frT1, frT2, frT3, fit0, fit1, fit2, fit3, true_and, and_true, ↓reduceIte, Nat.reduceAdd, Nat.reduceMul, and_self, not_false_eq_true, not_true_eq_false, Nat.zero_add, Nat.add_zero]
    · have b1 := fun i l P (hi : i ≤ T) (hl : l.1 ≤ 1000) => ih.1 (d + 1) (lv + 1) dep i l P (by omega) hdep hi hl (by omega)
      rw [show d + 1 + 2 * F + 4 = d + 2 * (F + 1) + 3 by omega] at b1
      have e35 : pE g n (F + 1) lv dep i = lpE g n lv (pE g n F (lv + 1) dep) (rou lv) (pE g n F (lv + 1) dep i) := by
        rw [pE, if_neg (by omega)]
      rw [e35]
      have hrou : rou lv = 1 ∨ rou lv = 1000 := by unfold rou; split <;> simp
      have key : ∀ P k j r t, j + k = rou lv → okRs T (er r) → Wp L xs (d+2*(F+1)+4) 35 35 [some (.ref (72)), some (.int (nI lv)), some (.int (nI dep)), some (.int (nI (rou lv))), some (.int (nI j)), t] [] (mk (rd (lw I (adds l r.2.2.1)) (er r)) J (rr R g n r.1) Z) P = P none (mk (rd (lw I (adds l (lpE g n lv (pE g n F (lv + 1) dep) k r).2.2.1)) (er (lpE g n lv (pE g n F (lv + 1) dep) k r))) J (rr R g n (lpE g n lv (pE g n F (lv + 1) dep) k r).1) Z) := by
        intro P k
        induction k with
        | zero =>
          intro j r t hj hr
          refine w35_35.trans ?_
          have hj' : j = rou lv := by omega
          subst hj'
          simp (discharger := omega) only [↓w35_1, ↓w35_2, ↓w35_5, ↓w35_6, ↓w35_7, ↓w35_10, ↓w35_11, ↓w35_12, ↓w35_13, ↓w35_14, ↓w35_15, ↓w35_16, ↓w35_19, ↓w35_20, ↓w35_21, ↓w35_24, ↓w35_25, ↓w35_28, ↓w35_31, ↓w35_32, ↓w35_33, ↓w35_37, ↓w35_38, ↓w35_41, ↓w35_42, ↓w35_43, ↓w35_46, ↓w35_48, ↓w35_50, ↓w35_53, ↓w35_54, ↓w35_57, ↓w35_60, ↓w35_61, ↓w35_62, ↓w35_65, ↓w35_66, ↓w35_67, ↓w35_68, ↓w35_69, ↓w35_70, ↓w35_73, ↓w35_74, ↓w35_77, ↓w35_79, ↓w35_82, ↓w35_85, ↓w35_88, mul8, mul8', mul4, mul4', nI_add, inT, nclN, ltT, ltF, leT, leF, eqT, eqF, nzF, m1F, m1T, shr, shg, bI0, bI1, bo_bI, bo_1, bo_0, eq10, eq00, frT1, frT2, frT3, fit0, fit1, fit2, fit3, true_and, and_true, ↓reduceIte, Nat.reduceAdd, Nat.reduceMul, and_self, not_false_eq_true, not_true_eq_false, Nat.zero_add, Nat.add_zero]
          exact Eq.refl _
        | succ k ihk =>
          intro j r t hj hr
          obtain ⟨a, f, cs, v⟩ := r
          refine w35_35.trans ?_
          have hT' : cutT (lw I (adds l cs)) J R g n T := cutT_lw hT
          have j1 := fun P => k_joinerOf (L := L) (xs := xs) (d := d + 2 * (F + 1) + 2) (P := P) (Z := Z) (s := (a, f)) (lv := lv) hT' hn hr (by omega) hg
          have rw5 : ∀ I f, rd I (a, f) 72 5 = nI f := fun I f => rd72_5
          have hf5 : f < 100000 := hr.2
          have ha : a ≤ T := hr.1
          have jk := jn_kd (g := g) (n := n) (lv := lv) (i := a)
          have eq0 : lpE g n lv (pE g n F (lv + 1) dep) (k + 1) (a, f, cs, v) = if jn g n lv a = nI 0 ∨ f ≠ 0 then (a, f, cs, v) else lpE g n lv (pE g n F (lv + 1) dep) k ((pE g n F (lv + 1) dep (a + 1)).1, (pE g n F (lv + 1) dep (a + 1)).2.1, cs ++ (pE g n F (lv + 1) dep (a + 1)).2.2.1 ++ [jn g n lv a], fun φ => jo (jn g n lv a) (v φ) ((pE g n F (lv + 1) dep (a + 1)).2.2.2 φ)) := rfl
          rw [eq0, show er (a, f, cs, v) = (a, f) from rfl]
          dsimp only
          generalize jn g n lv a = jc at *
          by_cases h0 : jc = nI 0
          · rw [if_pos (Or.inl h0), show er (a, f, cs, v) = (a, f) from rfl]
            subst h0
            simp (discharger := omega) only [↓w35_1, ↓w35_2, ↓w35_5, ↓w35_6, ↓w35_7, ↓w35_10, ↓w35_11, ↓w35_12, ↓w35_13, ↓w35_14, ↓w35_15, ↓w35_16, ↓w35_19, ↓w35_20, ↓w35_21, ↓w35_24, ↓w35_25, ↓w35_28, ↓w35_31, ↓w35_32, ↓w35_33, ↓w35_37, ↓w35_38, ↓w35_41, ↓w35_42, ↓w35_43, ↓w35_46, ↓w35_48, ↓w35_50, ↓w35_53, ↓w35_54, ↓w35_57, ↓w35_60, ↓w35_61, ↓w35_62, ↓w35_65, ↓w35_66, ↓w35_67, ↓w35_68, ↓w35_69, ↓w35_70, ↓w35_73, ↓w35_74, ↓w35_77, ↓w35_79, ↓w35_82, ↓w35_85, ↓w35_88, rc72, g72_0, g72_1, g72_2, p72_2, g72_3, p72_3, g72_4, p72_4, g72_5, p72_5, ↓j1, ↓kc_i, ↓kc_l, ↓kc_r, ↓kc_n, mul8, mul8', mul4, mul4', nI_add, inT, nclN, ltT, ltF, leT, leF, eqT, eqF, nzF, m1F, m1T, shr, shg, bI0, bI1, bo_bI, bo_1, bo_0, eq10, eq00, frT1, frT2, frT3, fit0, fit1, fit2, fit3, true_and, and_true, ↓reduceIte, Nat.reduceAdd, Nat.reduceMul, and_self, not_false_eq_true, not_true_eq_false, Nat.zero_add, Nat.add_zero]
          · by_cases hf : f = 0
            · subst hf
              rw [if_neg (by simp [h0])]
              have hk := jk h0
              have hlt : a < T := (cutT_lt hT ha).mp hk
              have av := fun P => k_advance (L := L) (xs := xs) (d := d + 2 * (F + 1) + 3) (P := P) (Z := Z) (s := (a, 0)) hT' hn hr
              rw [ad_0 hk] at av
              have b2 := fun P => b1 (a + 1) (adds l cs) P (by omega) (adds_le hl)
              have la := fun P => k_ladd (L := L) (xs := xs) (d := d + 2 * (F + 1) + 3) (P := P) (I := I) (J := J) (R := rr R g n (pE g n F (lv + 1) dep (a + 1)).1) (Z := Z) (s := er (pE g n F (lv + 1) dep (a + 1))) (c := jc) (adds_le (cs := (pE g n F (lv + 1) dep (a + 1)).2.2.1) (adds_le (cs := cs) hl))
              have ok2 := pE_ok hT hn F (lv + 1) dep (a + 1) (by omega)
              have nx := fun t => ihk (j + 1) ((pE g n F (lv + 1) dep (a + 1)).1, (pE g n F (lv + 1) dep (a + 1)).2.1, cs ++ (pE g n F (lv + 1) dep (a + 1)).2.2.1 ++ [jc], fun φ => jo jc (v φ) ((pE g n F (lv + 1) dep (a + 1)).2.2.2 φ)) t (by omega) ok2
              rw [← nx (some (.int jc))]
              dsimp only
              rw [adds_app, adds_app, adds_1, show er ((pE g n F (lv + 1) dep (a + 1)).1, (pE g n F (lv + 1) dep (a + 1)).2.1, cs ++ (pE g n F (lv + 1) dep (a + 1)).2.2.1 ++ [jc], fun φ => jo jc (v φ) ((pE g n F (lv + 1) dep (a + 1)).2.2.2 φ)) = er (pE g n F (lv + 1) dep (a + 1)) from rfl]
              simp (discharger := omega) only [↓w35_1, ↓w35_2, ↓w35_5, ↓w35_6, ↓w35_7, ↓w35_10, ↓w35_11, ↓w35_12, ↓w35_13, ↓w35_14, ↓w35_15, ↓w35_16, ↓w35_19, ↓w35_20, ↓w35_21, ↓w35_24, ↓w35_25, ↓w35_28, ↓w35_31, ↓w35_32, ↓w35_33, ↓w35_37, ↓w35_38, ↓w35_41, ↓w35_42, ↓w35_43, ↓w35_46, ↓w35_48, ↓w35_50, ↓w35_53, ↓w35_54, ↓w35_57, ↓w35_60, ↓w35_61, ↓w35_62, ↓w35_65, ↓w35_66, ↓w35_67, ↓w35_68, ↓w35_69, ↓w35_70, ↓w35_73, ↓w35_74, ↓w35_77, ↓w35_79, ↓w35_82, ↓w35_85, ↓w35_88, rc72, g72_0, g72_1, g72_2, p72_2, g72_3, p72_3, g72_4, p72_4, g72_5, p72_5, rc73, g73_0, g73_1, p73_1, g73_2, g73_3, p73_3, rw5, ↓j1, h0, ↓av, ↓b2, ↓la, ↓kc_i, ↓kc_l, ↓kc_r, ↓kc_n, mul8, mul8', mul4, mul4', nI_add, inT, nclN, ltT, ltF, leT, leF, eqT, eqF, nzF, m1F, m1T, shr, shg, bI0, bI1, bo_bI, bo_1, bo_0, eq10, eq00, frT1, frT2, frT3, fit0, fit1, fit2, fit3, true_and, and_true, ↓reduceIte, Nat.reduceAdd, Nat.reduceMul, and_self, not_false_eq_true, not_true_eq_false, Nat.zero_add, Nat.add_zero]
            · rw [if_pos (Or.inr hf), show er (a, f, cs, v) = (a, f) from rfl]
              dsimp only
              simp (discharger := omega) only [↓w35_1, ↓w35_2, ↓w35_5, ↓w35_6, ↓w35_7, ↓w35_10, ↓w35_11, ↓w35_12, ↓w35_13, ↓w35_14, ↓w35_15, ↓w35_16, ↓w35_19, ↓w35_20, ↓w35_21, ↓w35_24, ↓w35_25, ↓w35_28, ↓w35_31, ↓w35_32, ↓w35_33, ↓w35_37, ↓w35_38, ↓w35_41, ↓w35_42, ↓w35_43, ↓w35_46, ↓w35_48, ↓w35_50, ↓w35_53, ↓w35_54, ↓w35_57, ↓w35_60, ↓w35_61, ↓w35_62, ↓w35_65, ↓w35_66, ↓w35_67, ↓w35_68, ↓w35_69, ↓w35_70, ↓w35_73, ↓w35_74, ↓w35_77, ↓w35_79, ↓w35_82, ↓w35_85, ↓w35_88, rc72, g72_0, g72_1, g72_2, p72_2, g72_3, p72_3, g72_4, p72_4, g72_5, p72_5, rw5, ↓j1, h0, ↓kc_i, ↓kc_l, ↓kc_r, ↓kc_n, mul8, mul8', mul4, mul4', nI_add, inT, nclN, ltT, ltF, leT, leF, eqT, eqF, nzF, m1F, m1T, shr, shg, bI0, bI1, bo_bI, bo_1, bo_0, eq10, eq00, frT1, frT2, frT3, fit0, fit1, fit2, fit3, true_and, and_true, ↓reduceIte, Nat.reduceAdd, Nat.reduceMul, and_self, not_false_eq_true, not_true_eq_false, Nat.zero_add, Nat.add_zero]
      have ok1 := pE_ok hT hn F (lv + 1) dep i hi
      have b2 := fun P => b1 i l P hi hl
      rw [← key P (rou lv) 0 _ none (by omega) ok1]
      have hl3 : lv = 1 ∨ lv ≠ 1 := by omega
      refine w35_0.trans ?_
      rcases hl3 with rfl | h1
      · have : rou 1 = 1 := rfl
        simp (discharger := omega) only [↓w35_1, ↓w35_2, ↓w35_5, ↓w35_6, ↓w35_7, ↓w35_10, ↓w35_11, ↓w35_12, ↓w35_13, ↓w35_14, ↓w35_15, ↓w35_16, ↓w35_19, ↓w35_20, ↓w35_21, ↓w35_24, ↓w35_25, ↓w35_28, ↓w35_31, ↓w35_32, ↓w35_33, ↓w35_37, ↓w35_38, ↓w35_41, ↓w35_42, ↓w35_43, ↓w35_46, ↓w35_48, ↓w35_50, ↓w35_53, ↓w35_54, ↓w35_57, ↓w35_60, ↓w35_61, ↓w35_62, ↓w35_65, ↓w35_66, ↓w35_67, ↓w35_68, ↓w35_69, ↓w35_70, ↓w35_73, ↓w35_74, ↓w35_77, ↓w35_79, ↓w35_82, ↓w35_85, ↓w35_88, rc72, g72_0, g72_1, g72_2, p72_2, g72_3, p72_3, g72_4, p72_4, g72_5, p72_5, ↓b2, this, ↓kc_i, ↓kc_l, ↓kc_r, ↓kc_n, mul8, mul8', mul4, mul4', nI_add, inT, nclN, ltT, ltF, leT, leF, eqT, eqF, nzF, m1F, m1T, shr, shg, bI0, bI1, bo_bI, bo_1, bo_0, eq10, eq00, frT1, frT2, frT3, fit0, fit1, fit2, fit3, true_and, and_true, ↓reduceIte, Nat.reduceAdd, Nat.reduceMul, and_self, not_false_eq_true, not_true_eq_false, Nat.zero_add, Nat.add_zero]
      · have : rou lv = 1000 := if_neg h1
        simp (discharger := omega) only [↓w35_1, ↓w35_2, ↓w35_5, ↓w35_6, ↓w35_7, ↓w35_10, ↓w35_11, ↓w35_12, ↓w35_13, ↓w35_14, ↓w35_15, ↓w35_16, ↓w35_19, ↓w35_20, ↓w35_21, ↓w35_24, ↓w35_25, ↓w35_28, ↓w35_31, ↓w35_32, ↓w35_33, ↓w35_37, ↓w35_38, ↓w35_41, ↓w35_42, ↓w35_43, ↓w35_46, ↓w35_48, ↓w35_50, ↓w35_53, ↓w35_54, ↓w35_57, ↓w35_60, ↓w35_61, ↓w35_62, ↓w35_65, ↓w35_66, ↓w35_67, ↓w35_68, ↓w35_69, ↓w35_70, ↓w35_73, ↓w35_74, ↓w35_77, ↓w35_79, ↓w35_82, ↓w35_85, ↓w35_88, rc72, g72_0, g72_1, g72_2, p72_2, g72_3, p72_3, g72_4, p72_4, g72_5, p72_5, ↓b2, this, ↓kc_i, ↓kc_l, ↓kc_r, ↓kc_n, mul8, mul8', mul4, mul4', nI_add, inT, nclN, ltT, ltF, leT, leF, eqT, eqF, nzF, m1F, m1T, shr, shg, bI0, bI1, bo_bI, bo_1, bo_0, eq10, eq00, frT1, frT2, frT3, fit0, fit1, fit2, fit3, true_and, and_true, ↓reduceIte, Nat.reduceAdd, Nat.reduceMul, and_self, not_false_eq_true, not_true_eq_false, Nat.zero_add, Nat.add_zero]
end G5
