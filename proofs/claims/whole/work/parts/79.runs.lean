/-! A State as one thing: V j is its row j (0: up, cleaned; 1 status .. 11 accepts) -/
abbrev Vw : Type := Nat → Nat → Int32
def putS (I : Mi) (s : Nat) (V : Vw) : Mi := fun a => if s ≤ a ∧ a < s + 12 then V (a - s) else I a
section PS
variable {I : Mi} {s j a : Nat} {V : Vw} {f : Nat → Int32}
theorem ps_j (hj : j < 12) : putS I s V (s + j) = V j := by
  unfold putS; rw [if_pos (by omega), show s + j - s = j by omega]
theorem ps_0 : putS I s V s = V 0 := by
  unfold putS; rw [if_pos (by omega), show s - s = 0 by omega]
theorem ps_ne (h : a < s ∨ s + 12 ≤ a) : putS I s V a = I a := by
  unfold putS; rw [if_neg (by omega)]
theorem st_ps (hj : j < 12) : st (putS I s V) (s + j) f = putS I s (st V j f) := by
  funext b; unfold st putS
  by_cases h1 : b = s + j
  · subst h1; rw [if_pos rfl, if_pos (by omega)]; exact (if_pos (by omega)).symm
  · rw [if_neg h1]
    by_cases h2 : s ≤ b ∧ b < s + 12
    · rw [if_pos h2, if_pos h2]; exact (if_neg (by omega)).symm
    · rw [if_neg h2, if_neg h2]
theorem st_ps0 : st (putS I s V) s f = putS I s (st V 0 f) := st_ps (j := 0) (by decide)
theorem st_psne (h : a < s ∨ s + 12 ≤ a) : st (putS I s V) a f = putS (st I a f) s V := by
  funext b; unfold st putS
  by_cases h1 : b = a
  · subst h1; rw [if_pos rfl, if_neg (by omega)]; exact (if_pos rfl).symm
  · rw [if_neg h1]
    by_cases h2 : s ≤ b ∧ b < s + 12
    · rw [if_pos h2, if_pos h2]
    · rw [if_neg h2, if_neg h2]; exact (if_neg h1).symm
theorem ps_id : putS I s (fun j => I (s + j)) = I := by
  funext b; unfold putS
  by_cases h2 : s ≤ b ∧ b < s + 12
  · rw [if_pos h2]; exact congrArg I (by omega)
  · rw [if_neg h2]
theorem ps_ps {V' : Vw} : putS (putS I s V) s V' = putS I s V' := by
  funext b; unfold putS
  by_cases h2 : s ≤ b ∧ b < s + 12
  · rw [if_pos h2, if_pos h2]
  · rw [if_neg h2, if_neg h2, if_neg h2]
end PS
section K7
variable {L : Nat} {xs : Nat → Int32} {d : Nat} {P : Option Value → Hp → Prop} {I : Mi} {J : Mj} {R : Mr} {Z : Mz} {s r c k N M : Nat} {x y : Int32} {V : Vw}
def wip4 (r : Nat) (f : Nat → Int32) : Nat → Int32 := lp (fun k f => upd f (4 * r + k) (nI 0)) 4 f
def effV (kd va : Int32) (k r c : Nat) (V : Vw) : Vw :=
  if kd = nI 0 then st V 8 (upd (V 8) (4 * r + k) va)
  else if kd = nI 1 then st V 8 (upd (V 8) (4 * r + k) ((V 8 (4 * r + k) + va) - (V 8 (4 * r + k) + va) / nI 1000 * nI 1000))
  else if kd = nI 2 then st V 5 (upd (V 5) (8 * r + c) (V 8 (4 * r + k)))
  else st V 8 (wip4 r (V 8))
theorem k_takeEffect (hs : isS s) (hc : c < 8) (hr : r < 5) (hk : I 78 c = nI k) (hk4 : k < 4) :
    Wp L xs (d+1) 83 0 [some (.ref (126)), some (.ref (s)), some (.int (nI r)), some (.int (nI c)), none, none, none] [] (mk (putS I s V) J R Z) P = P none (mk (putS I s (effV (I 77 c) (I 79 c) k r c V)) J R Z) := by
  have hs1 := hs.1
  simp (discharger := omega) only [↓w83_0, ↓w83_1, ↓w83_2, ↓w83_3, ↓w83_4, ↓w83_7, ↓w83_10, ↓w83_11, ↓w83_12, ↓w83_13, ↓w83_15, ↓w83_16, ↓w83_19, ↓w83_22, ↓w83_23, ↓w83_24, ↓w83_26, ↓w83_27, ↓w83_30, ↓w83_33, ↓w83_34, ↓w83_35, ↓w83_60, ↓w83_61, ↓w83_64, ↓w83_66, ↓w83_68, ↓w83_69, ↓w83_72, ↓w83_73, ↓w83_76, ↓w83_78, ↓w83_79, ↓w83_82, ↓w83_84, ↓w83_85, ↓w83_87, ↓w83_88, ↓w83_91, ↓w83_92, ↓w83_93, ↓w83_96, ↓w83_97, ↓w83_100, ↓w83_101, ↓w83_102, ↓w83_105, ↓w83_106, ↓w83_109, ↓w83_111, ↓w83_112, ↓w83_113, ↓w83_116, ↓w83_117, ↓w83_121, ↓w83_122, ↓w83_125, ↓w83_126, ↓w83_129, ↓w83_130, ↓w83_131, ↓w83_132, ↓w83_134, ↓w83_135, ↓w83_136, ↓w83_137, ↓w83_140, ↓w83_143, ↓k_cellOf, ↓kc_i, ↓kc_l, ↓kc_r, ↓kc_n, gS0 hs, gS1 hs, gS2 hs, gS3 hs, gS4 hs, gS5 hs, gS6 hs, gS7 hs, gS8 hs, gS9 hs, gS10 hs, gS11 hs, gS12 hs, giS1 hs, giS2 hs, giS3 hs, giS4 hs, giS5 hs, giS6 hs, giS7 hs, giS8 hs, giS9 hs, giS10 hs, giS11 hs, siS1 hs, siS2 hs, siS3 hs, siS4 hs, siS5 hs, siS6 hs, siS7 hs, siS8 hs, siS9 hs, siS10 hs, siS11 hs, pS0 hs, pS1 hs, rcS hs, rc126, g126_0, g126_1, g126_2, p126_2, rc76, g76_0, p76_0, g76_1, p76_1, g76_2, p76_2, g76_3, g76_4, g76_5, g76_6, g76_7, g76_8, gi77, si77, gi78, si78, gi79, si79, ps_0, ps_j, ps_ne, st_ps, st_ps0, st_psne, st_ne, st_eq, st_st, upd_eq, upd_upd, hk, mul8, mul8', mul4, mul4', nI_add, inT, nclN, ltT, ltF, leT, leF, eqT, eqF, nzF, m1F, m1T, shr, shg, bI0, bI1, bo_bI, bo_1, bo_0, eq10, eq00, frT1, frT2, frT3, fit0, fit1, fit2, fit3, true_and, and_true, ↓reduceIte, Nat.reduceAdd, Nat.reduceMul, and_self, not_false_eq_true, not_true_eq_false, Nat.zero_add, Nat.add_zero]
  unfold effV
  by_cases h0 : I 77 c = nI 0
  · simp [h0]
  · by_cases h1 : I 77 c = nI 1
    · rw [if_neg h0, if_pos h1, if_neg h0, if_pos h1]
    · by_cases h2 : I 77 c = nI 2
      · rw [if_neg h0, if_neg h1, if_pos h2, if_neg h0, if_neg h1, if_pos h2]
      · rw [if_neg h0, if_neg h1, if_neg h2, if_neg h0, if_neg h1, if_neg h2]
        refine Eq.trans (congrArg (fun q => Wp L xs (d+1) 83 119 [some (.ref (126)), some (.ref (s)), some (.int (nI r)), some (.int (nI c)), some (.int (nI (4 * r + k))), some (.int (I 79 c)), some (.int (nI 0))] [] (mk (putS I s q) J R Z) P) (show V = st V 8 (V 8) by rw [st_id])) ?_
        refine lp_to (F := fun i f => Wp L xs (d+1) 83 119 [some (.ref (126)), some (.ref (s)), some (.int (nI r)), some (.int (nI c)), some (.int (nI (4 * r + k))), some (.int (I 79 c)), some (.int (nI i))] [] (mk (putS I s (st V 8 f)) J R Z) P) (B := fun k f => upd f (4 * r + k) (nI 0)) 4 (V 8) ?_ ?_
        · intro i f hi
          refine w83_119.trans ?_
          simp (discharger := omega) only [↓w83_0, ↓w83_1, ↓w83_2, ↓w83_3, ↓w83_4, ↓w83_7, ↓w83_10, ↓w83_11, ↓w83_12, ↓w83_13, ↓w83_15, ↓w83_16, ↓w83_19, ↓w83_22, ↓w83_23, ↓w83_24, ↓w83_26, ↓w83_27, ↓w83_30, ↓w83_33, ↓w83_34, ↓w83_35, ↓w83_60, ↓w83_61, ↓w83_64, ↓w83_66, ↓w83_68, ↓w83_69, ↓w83_72, ↓w83_73, ↓w83_76, ↓w83_78, ↓w83_79, ↓w83_82, ↓w83_84, ↓w83_85, ↓w83_87, ↓w83_88, ↓w83_91, ↓w83_92, ↓w83_93, ↓w83_96, ↓w83_97, ↓w83_100, ↓w83_101, ↓w83_102, ↓w83_105, ↓w83_106, ↓w83_109, ↓w83_111, ↓w83_112, ↓w83_113, ↓w83_116, ↓w83_117, ↓w83_121, ↓w83_122, ↓w83_125, ↓w83_126, ↓w83_129, ↓w83_130, ↓w83_131, ↓w83_132, ↓w83_134, ↓w83_135, ↓w83_136, ↓w83_137, ↓w83_140, ↓w83_143, ↓kc_i, ↓kc_l, ↓kc_r, ↓kc_n, gS0 hs, gS1 hs, gS2 hs, gS3 hs, gS4 hs, gS5 hs, gS6 hs, gS7 hs, gS8 hs, gS9 hs, gS10 hs, gS11 hs, gS12 hs, giS1 hs, giS2 hs, giS3 hs, giS4 hs, giS5 hs, giS6 hs, giS7 hs, giS8 hs, giS9 hs, giS10 hs, giS11 hs, siS1 hs, siS2 hs, siS3 hs, siS4 hs, siS5 hs, siS6 hs, siS7 hs, siS8 hs, siS9 hs, siS10 hs, siS11 hs, pS0 hs, pS1 hs, rcS hs, ps_0, ps_j, ps_ne, st_ps, st_ps0, st_psne, st_ne, st_eq, st_st, upd_eq, upd_upd, mul8, mul8', mul4, mul4', nI_add, inT, nclN, ltT, ltF, leT, leF, eqT, eqF, nzF, m1F, m1T, shr, shg, bI0, bI1, bo_bI, bo_1, bo_0, eq10, eq00, frT1, frT2, frT3, fit0, fit1, fit2, fit3, true_and, and_true, ↓reduceIte, Nat.reduceAdd, Nat.reduceMul, and_self, not_false_eq_true, not_true_eq_false, Nat.zero_add, Nat.add_zero]
        · refine w83_119.trans ?_
          simp (discharger := omega) only [↓w83_0, ↓w83_1, ↓w83_2, ↓w83_3, ↓w83_4, ↓w83_7, ↓w83_10, ↓w83_11, ↓w83_12, ↓w83_13, ↓w83_15, ↓w83_16, ↓w83_19, ↓w83_22, ↓w83_23, ↓w83_24, ↓w83_26, ↓w83_27, ↓w83_30, ↓w83_33, ↓w83_34, ↓w83_35, ↓w83_60, ↓w83_61, ↓w83_64, ↓w83_66, ↓w83_68, ↓w83_69, ↓w83_72, ↓w83_73, ↓w83_76, ↓w83_78, ↓w83_79, ↓w83_82, ↓w83_84, ↓w83_85, ↓w83_87, ↓w83_88, ↓w83_91, ↓w83_92, ↓w83_93, ↓w83_96, ↓w83_97, ↓w83_100, ↓w83_101, ↓w83_102, ↓w83_105, ↓w83_106, ↓w83_109, ↓w83_111, ↓w83_112, ↓w83_113, ↓w83_116, ↓w83_117, ↓w83_121, ↓w83_122, ↓w83_125, ↓w83_126, ↓w83_129, ↓w83_130, ↓w83_131, ↓w83_132, ↓w83_134, ↓w83_135, ↓w83_136, ↓w83_137, ↓w83_140, ↓w83_143, ↓kc_i, ↓kc_l, ↓kc_r, ↓kc_n, gS0 hs, gS1 hs, gS2 hs, gS3 hs, gS4 hs, gS5 hs, gS6 hs, gS7 hs, gS8 hs, gS9 hs, gS10 hs, gS11 hs, gS12 hs, giS1 hs, giS2 hs, giS3 hs, giS4 hs, giS5 hs, giS6 hs, giS7 hs, giS8 hs, giS9 hs, giS10 hs, giS11 hs, siS1 hs, siS2 hs, siS3 hs, siS4 hs, siS5 hs, siS6 hs, siS7 hs, siS8 hs, siS9 hs, siS10 hs, siS11 hs, pS0 hs, pS1 hs, rcS hs, ps_0, ps_j, ps_ne, st_ps, st_ps0, st_psne, st_ne, st_eq, st_st, upd_eq, upd_upd, mul8, mul8', mul4, mul4', nI_add, inT, nclN, ltT, ltF, leT, leF, eqT, eqF, nzF, m1F, m1T, shr, shg, bI0, bI1, bo_bI, bo_1, bo_0, eq10, eq00, frT1, frT2, frT3, fit0, fit1, fit2, fit3, true_and, and_true, ↓reduceIte, Nat.reduceAdd, Nat.reduceMul, and_self, not_false_eq_true, not_true_eq_false, Nat.zero_add, Nat.add_zero]
          rfl
def r1V (n : Nat) (kd va : Int32) (k r c : Nat) (V : Vw) : Vw := if 8 ≤ n then V else (fun V1 : Vw => if V 3 (8 * r + c) = nI 0 then V1 else effV kd va k r c V1) (st (st (st V 1 (upd (V 1) (8 * r + c) (nI 4))) 6 (upd (V 6) (8 * r + n) (nI c))) 7 (upd (V 7) r (nI (n + 1))))
theorem k_runOne {n : Nat} (hs : isS s) (hc : c < 8) (hr : r < 5) (hk : I 78 c = nI k) (hk4 : k < 4) (hn : V 7 r = nI n) (hn8 : n ≤ 8) :
    Wp L xs (d+2) 82 0 [some (.ref (126)), some (.ref (s)), some (.int (nI r)), some (.int (nI c)), none, none] [] (mk (putS I s V) J R Z) P = P none (mk (putS I s (r1V n (I 77 c) (I 79 c) k r c V)) J R Z) := by
  have hs1 := hs.1
  unfold r1V
  by_cases h8 : 8 ≤ n
  · simp (discharger := omega) only [↓w82_0, ↓w82_1, ↓w82_2, ↓w82_5, ↓w82_7, ↓w82_8, ↓w82_11, ↓w82_12, ↓w82_13, ↓w82_15, ↓w82_17, ↓w82_19, ↓w82_22, ↓w82_23, ↓w82_24, ↓w82_27, ↓w82_29, ↓w82_30, ↓w82_31, ↓w82_32, ↓w82_35, ↓w82_36, ↓w82_38, ↓w82_41, ↓w82_42, ↓w82_43, ↓w82_44, ↓w82_47, ↓w82_48, ↓w82_50, ↓w82_51, ↓w82_52, ↓w82_53, ↓w82_54, ↓w82_56, ↓w82_59, ↓w82_62, ↓w82_63, ↓w82_64, ↓w82_65, ↓w82_66, ↓w82_69, ↓k_cellOf, ↓kc_i, ↓kc_l, ↓kc_r, ↓kc_n, gS0 hs, gS1 hs, gS2 hs, gS3 hs, gS4 hs, gS5 hs, gS6 hs, gS7 hs, gS8 hs, gS9 hs, gS10 hs, gS11 hs, gS12 hs, giS1 hs, giS2 hs, giS3 hs, giS4 hs, giS5 hs, giS6 hs, giS7 hs, giS8 hs, giS9 hs, giS10 hs, giS11 hs, siS1 hs, siS2 hs, siS3 hs, siS4 hs, siS5 hs, siS6 hs, siS7 hs, siS8 hs, siS9 hs, siS10 hs, siS11 hs, pS0 hs, pS1 hs, rcS hs, ps_0, ps_j, ps_ne, st_ps, st_ps0, st_psne, st_ne, st_eq, st_st, upd_eq, upd_upd, hn, mul8, mul8', mul4, mul4', nI_add, inT, nclN, ltT, ltF, leT, leF, eqT, eqF, nzF, m1F, m1T, shr, shg, bI0, bI1, bo_bI, bo_1, bo_0, eq10, eq00, frT1, frT2, frT3, fit0, fit1, fit2, fit3, true_and, and_true, ↓reduceIte, Nat.reduceAdd, Nat.reduceMul, and_self, not_false_eq_true, not_true_eq_false, Nat.zero_add, Nat.add_zero, h8]
  · simp (discharger := omega) only [↓w82_0, ↓w82_1, ↓w82_2, ↓w82_5, ↓w82_7, ↓w82_8, ↓w82_11, ↓w82_12, ↓w82_13, ↓w82_15, ↓w82_17, ↓w82_19, ↓w82_22, ↓w82_23, ↓w82_24, ↓w82_27, ↓w82_29, ↓w82_30, ↓w82_31, ↓w82_32, ↓w82_35, ↓w82_36, ↓w82_38, ↓w82_41, ↓w82_42, ↓w82_43, ↓w82_44, ↓w82_47, ↓w82_48, ↓w82_50, ↓w82_51, ↓w82_52, ↓w82_53, ↓w82_54, ↓w82_56, ↓w82_59, ↓w82_62, ↓w82_63, ↓w82_64, ↓w82_65, ↓w82_66, ↓w82_69, ↓k_cellOf, ↓k_isEmptyAt hs, ↓k_takeEffect hs hc hr hk hk4, rc126, g126_0, g126_1, g126_2, p126_2, ↓kc_i, ↓kc_l, ↓kc_r, ↓kc_n, gS0 hs, gS1 hs, gS2 hs, gS3 hs, gS4 hs, gS5 hs, gS6 hs, gS7 hs, gS8 hs, gS9 hs, gS10 hs, gS11 hs, gS12 hs, giS1 hs, giS2 hs, giS3 hs, giS4 hs, giS5 hs, giS6 hs, giS7 hs, giS8 hs, giS9 hs, giS10 hs, giS11 hs, siS1 hs, siS2 hs, siS3 hs, siS4 hs, siS5 hs, siS6 hs, siS7 hs, siS8 hs, siS9 hs, siS10 hs, siS11 hs, pS0 hs, pS1 hs, rcS hs, ps_0, ps_j, ps_ne, st_ps, st_ps0, st_psne, st_ne, st_eq, st_st, upd_eq, upd_upd, hn, mul8, mul8', mul4, mul4', nI_add, inT, nclN, ltT, ltF, leT, leF, eqT, eqF, nzF, m1F, m1T, shr, shg, bI0, bI1, bo_bI, bo_1, bo_0, eq10, eq00, frT1, frT2, frT3, fit0, fit1, fit2, fit3, true_and, and_true, ↓reduceIte, Nat.reduceAdd, Nat.reduceMul, and_self, not_false_eq_true, not_true_eq_false, Nat.zero_add, Nat.add_zero, h8]
    by_cases h3 : V 3 (8 * r + c) = nI 0
    · simp [h3]
    · simp [h3]
/-- which of two is run ahead of the other -/
def les (f3 : Nat → Int32) (r : Nat) (b : Option Nat) (c : Nat) : Option Nat := match b with
  | none => some c
  | some q => if f3 (8 * r + c) < f3 (8 * r + q) then some c else some q
theorem k_lesser {b : Option Nat} (hs : isS s) (hc : c < 8) (hr : r < 5) (hb : ∀ q, b = some q → q < 8) :
    Wp L xs (d+1) 81 0 [some (.ref (s)), some (.int (nI r)), some (.int (oN b)), some (.int (nI c)), none] [] (mk I J R Z) P = P (some (.int (oN (les (I (s + 3)) r b c)))) (mk I J R Z) := by
  cases b with
  | none =>
    simp (discharger := omega) only [↓w81_0, ↓w81_1, ↓w81_2, ↓w81_5, ↓w81_6, ↓w81_7, ↓w81_8, ↓w81_11, ↓w81_12, ↓w81_13, ↓w81_16, ↓w81_17, ↓w81_19, ↓w81_20, ↓w81_23, ↓w81_24, ↓w81_25, ↓w81_28, ↓w81_29, ↓w81_31, ↓w81_34, ↓w81_35, ↓w81_38, ↓w81_39, oN, mul8, mul8', mul4, mul4', nI_add, inT, nclN, ltT, ltF, leT, leF, eqT, eqF, nzF, m1F, m1T, shr, shg, bI0, bI1, bo_bI, bo_1, bo_0, eq10, eq00, frT1, frT2, frT3, fit0, fit1, fit2, fit3, true_and, and_true, ↓reduceIte, Nat.reduceAdd, Nat.reduceMul, and_self, not_false_eq_true, not_true_eq_false, Nat.zero_add, Nat.add_zero, les]
  | some q =>
    have := hb q rfl
    simp (discharger := omega) only [↓w81_0, ↓w81_1, ↓w81_2, ↓w81_5, ↓w81_6, ↓w81_7, ↓w81_8, ↓w81_11, ↓w81_12, ↓w81_13, ↓w81_16, ↓w81_17, ↓w81_19, ↓w81_20, ↓w81_23, ↓w81_24, ↓w81_25, ↓w81_28, ↓w81_29, ↓w81_31, ↓w81_34, ↓w81_35, ↓w81_38, ↓w81_39, ↓k_cellOf, ↓kc_i, ↓kc_l, ↓kc_r, ↓kc_n, gS0 hs, gS1 hs, gS2 hs, gS3 hs, gS4 hs, gS5 hs, gS6 hs, gS7 hs, gS8 hs, gS9 hs, gS10 hs, gS11 hs, gS12 hs, giS1 hs, giS2 hs, giS3 hs, giS4 hs, giS5 hs, giS6 hs, giS7 hs, giS8 hs, giS9 hs, giS10 hs, giS11 hs, siS1 hs, siS2 hs, siS3 hs, siS4 hs, siS5 hs, siS6 hs, siS7 hs, siS8 hs, siS9 hs, siS10 hs, siS11 hs, pS0 hs, pS1 hs, rcS hs, oN, mul8, mul8', mul4, mul4', nI_add, inT, nclN, ltT, ltF, leT, leF, eqT, eqF, nzF, m1F, m1T, shr, shg, bI0, bI1, bo_bI, bo_1, bo_0, eq10, eq00, frT1, frT2, frT3, fit0, fit1, fit2, fit3, true_and, and_true, ↓reduceIte, Nat.reduceAdd, Nat.reduceMul, and_self, not_false_eq_true, not_true_eq_false, Nat.zero_add, Nat.add_zero, les]
    by_cases h : I (s + 3) (8 * r + c) < I (s + 3) (8 * r + q)
    · rw [if_neg (Int32.not_le.mpr h), if_pos h]
    · rw [if_pos (Int32.not_lt.mp h), if_neg h]
theorem les_lt {f3 : Nat → Int32} {b : Option Nat} {m : Nat} (hc : c < m) (hb : ∀ q, b = some q → q < m) : ∀ q, les f3 r b c = some q → q < m := by
  intro q hq
  unfold les at hq
  split at hq
  · cases hq; exact hc
  · split at hq
    · cases hq; exact hc
    · cases hq; exact hb _ rfl
/-- the one of those that are so that is run ahead of the others -/
def lst (p : Nat → Bool) (f3 : Nat → Int32) (r n : Nat) : Option Nat := lp (fun c b => if p c = true then les f3 r b c else b) n none
theorem lst_lt {p : Nat → Bool} {f3 : Nat → Int32} : ∀ {n q : Nat}, lst p f3 r n = some q → q < n
  | 0, _, h => by cases h
  | n + 1, q, h => by
    have h' : (if p n = true then les f3 r (lst p f3 r n) n else lst p f3 r n) = some q := h
    split at h'
    · exact les_lt (by omega) (fun q hq => by have := lst_lt hq; omega) q h'
    · have := lst_lt h'; omega
def lk0 (com dn : Int32) (f4 : Nat → Int32) (r : Nat) (f : Nat → Int32) : Nat → Int32 := lp (fun c f => upd f c (if tb com c = true then f4 (8 * r + c) &&& (dn ^^^ (-1)) else nI 0)) 8 f
def ws1 (b : Nat) (f : Nat → Int32) : Nat → Int32 := lp (fun c f => if tb (f c) b = true then upd f c (f c ||| f b) else f) 8 f
def wsh (f : Nat → Int32) : Nat → Int32 := lp ws1 8 f
def cAt (f1 : Nat → Int32) (r : Nat) (a b : Int32) : Int32 := bm 8 fun c => inr (f1 (8 * r + c)) a b
theorem k_commandsAt' {a b : Int32} (hs : isS s) (hr : r < 5) : Wp L xs (d+1) 91 0 [some (.ref (s)), some (.int (nI r)), some (.int (a)), some (.int (b)), none, none, none] [] (mk I J R Z) P = P (some (.int (cAt (I (s + 1)) r a b))) (mk I J R Z) := k_commandsAt hs hr
theorem k_isCommitted (hc : c < 8) : Wp L xs d 76 0 [some (.ref (126)), some (.int (nI c))] [] (mk I J R Z) P = P (some (.int (bI (tb (I 126 2) c)))) (mk I J R Z) := by
  simp (discharger := omega) only [↓w76_0, ↓w76_1, ↓w76_4, ↓w76_5, ↓w76_6, ↓w76_7, ↓w76_8, ↓w76_11, ↓w76_12, ↓w76_15, ↓w76_16, rc126, g126_0, g126_1, g126_2, p126_2, mul8, mul8', mul4, mul4', nI_add, inT, nclN, ltT, ltF, leT, leF, eqT, eqF, nzF, m1F, m1T, shr, shg, bI0, bI1, bo_bI, bo_1, bo_0, eq10, eq00, frT1, frT2, frT3, fit0, fit1, fit2, fit3, true_and, and_true, ↓reduceIte, Nat.reduceAdd, Nat.reduceMul, and_self, not_false_eq_true, not_true_eq_false, Nat.zero_add, Nat.add_zero]
  cases tb (I 126 2) c <;> simp [bI, bo_0, bo_1]
/-- what lookAt leaves in the row 'leans' -/
def lns (f1 f4 : Nat → Int32) (r : Nat) (f : Nat → Int32) : Nat → Int32 := wsh (lk0 (cAt f1 r (nI 3) (nI 3)) (cAt f1 r (nI 4) (nI 4)) f4 r f)
def lkI (I : Mi) (com : Int32) (f : Nat → Int32) : Mi := st (st I 126 (upd (I 126) 2 com)) 127 f
theorem k_look1 {com dn : Int32} {b : Nat} (hb : b < 8) (f : Nat → Int32) : Wp L xs d 75 83 [some (.ref (126)), some (.ref (s)), some (.int (nI r)), some (.int (dn)), some (.int (nI b)), some (.int (nI 0))] [] (mk (lkI I com f) J R Z) P = Wp L xs d 75 73 [some (.ref (126)), some (.ref (s)), some (.int (nI r)), some (.int (dn)), some (.int (nI (b + 1))), some (.int (nI 8))] [] (mk (lkI I com (ws1 b f)) J R Z) P := by
  refine lp_to (F := fun i f => Wp L xs d 75 83 [some (.ref (126)), some (.ref (s)), some (.int (nI r)), some (.int (dn)), some (.int (nI b)), some (.int (nI i))] [] (mk (lkI I com f) J R Z) P) (B := fun c f => if tb (f c) b = true then upd f c (f c ||| f b) else f) 8 f ?_ ?_
  · intro i f hi
    refine w75_83.trans ?_
    unfold lkI
    simp (discharger := omega) only [↓w75_0, ↓w75_1, ↓w75_2, ↓w75_3, ↓w75_4, ↓w75_5, ↓w75_8, ↓w75_11, ↓w75_12, ↓w75_13, ↓w75_14, ↓w75_15, ↓w75_18, ↓w75_19, ↓w75_20, ↓w75_24, ↓w75_26, ↓w75_29, ↓w75_30, ↓w75_33, ↓w75_35, ↓w75_36, ↓w75_38, ↓w75_41, ↓w75_44, ↓w75_45, ↓w75_48, ↓w75_49, ↓w75_51, ↓w75_54, ↓w75_55, ↓w75_56, ↓w75_57, ↓w75_58, ↓w75_59, ↓w75_62, ↓w75_63, ↓w75_64, ↓w75_67, ↓w75_70, ↓w75_71, ↓w75_75, ↓w75_77, ↓w75_80, ↓w75_81, ↓w75_85, ↓w75_87, ↓w75_90, ↓w75_91, ↓w75_94, ↓w75_96, ↓w75_97, ↓w75_99, ↓w75_100, ↓w75_101, ↓w75_102, ↓w75_105, ↓w75_106, ↓w75_109, ↓w75_111, ↓w75_112, ↓w75_113, ↓w75_114, ↓w75_117, ↓w75_119, ↓w75_120, ↓w75_121, ↓w75_122, ↓w75_125, ↓w75_128, ↓w75_131, ↓w75_134, ↓kc_i, ↓kc_l, ↓kc_r, ↓kc_n, rc126, g126_0, g126_1, g126_2, p126_2, gi127, si127, st_ne, st_eq, st_st, upd_eq, mul8, mul8', mul4, mul4', nI_add, inT, nclN, ltT, ltF, leT, leF, eqT, eqF, nzF, m1F, m1T, shr, shg, bI0, bI1, bo_bI, bo_1, bo_0, eq10, eq00, frT1, frT2, frT3, fit0, fit1, fit2, fit3, true_and, and_true, ↓reduceIte, Nat.reduceAdd, Nat.reduceMul, and_self, not_false_eq_true, not_true_eq_false, Nat.zero_add, Nat.add_zero]
    cases tb (f i) b <;> simp
  · refine w75_83.trans ?_
    simp (discharger := omega) only [↓w75_0, ↓w75_1, ↓w75_2, ↓w75_3, ↓w75_4, ↓w75_5, ↓w75_8, ↓w75_11, ↓w75_12, ↓w75_13, ↓w75_14, ↓w75_15, ↓w75_18, ↓w75_19, ↓w75_20, ↓w75_24, ↓w75_26, ↓w75_29, ↓w75_30, ↓w75_33, ↓w75_35, ↓w75_36, ↓w75_38, ↓w75_41, ↓w75_44, ↓w75_45, ↓w75_48, ↓w75_49, ↓w75_51, ↓w75_54, ↓w75_55, ↓w75_56, ↓w75_57, ↓w75_58, ↓w75_59, ↓w75_62, ↓w75_63, ↓w75_64, ↓w75_67, ↓w75_70, ↓w75_71, ↓w75_75, ↓w75_77, ↓w75_80, ↓w75_81, ↓w75_85, ↓w75_87, ↓w75_90, ↓w75_91, ↓w75_94, ↓w75_96, ↓w75_97, ↓w75_99, ↓w75_100, ↓w75_101, ↓w75_102, ↓w75_105, ↓w75_106, ↓w75_109, ↓w75_111, ↓w75_112, ↓w75_113, ↓w75_114, ↓w75_117, ↓w75_119, ↓w75_120, ↓w75_121, ↓w75_122, ↓w75_125, ↓w75_128, ↓w75_131, ↓w75_134, ↓kc_i, ↓kc_l, ↓kc_r, ↓kc_n, rc126, g126_0, g126_1, g126_2, p126_2, gi127, si127, mul8, mul8', mul4, mul4', nI_add, inT, nclN, ltT, ltF, leT, leF, eqT, eqF, nzF, m1F, m1T, shr, shg, bI0, bI1, bo_bI, bo_1, bo_0, eq10, eq00, frT1, frT2, frT3, fit0, fit1, fit2, fit3, true_and, and_true, ↓reduceIte, Nat.reduceAdd, Nat.reduceMul, and_self, not_false_eq_true, not_true_eq_false, Nat.zero_add, Nat.add_zero]
    rfl
theorem k_look2 {com dn : Int32} (f0 : Nat → Int32) (t : Option Value) : Wp L xs d 75 73 [some (.ref (126)), some (.ref (s)), some (.int (nI r)), some (.int (dn)), some (.int (nI 0)), t] [] (mk (lkI I com f0) J R Z) P = P none (mk (lkI I com (lp ws1 8 f0)) J R Z) := by
  have key : ∀ n, n ≤ 8 → ∃ t', Wp L xs d 75 73 [some (.ref (126)), some (.ref (s)), some (.int (nI r)), some (.int (dn)), some (.int (nI 0)), t] [] (mk (lkI I com f0) J R Z) P = Wp L xs d 75 73 [some (.ref (126)), some (.ref (s)), some (.int (nI r)), some (.int (dn)), some (.int (nI n)), t'] [] (mk (lkI I com (lp ws1 n f0)) J R Z) P := by
    intro n
    induction n with
    | zero => intro _; exact ⟨t, rfl⟩
    | succ n ih =>
      intro hn
      obtain ⟨t1, h1⟩ := ih (by omega)
      refine ⟨some (.int (nI 8)), h1.trans (w75_73.trans ?_)⟩
      simp (discharger := omega) only [↓w75_0, ↓w75_1, ↓w75_2, ↓w75_3, ↓w75_4, ↓w75_5, ↓w75_8, ↓w75_11, ↓w75_12, ↓w75_13, ↓w75_14, ↓w75_15, ↓w75_18, ↓w75_19, ↓w75_20, ↓w75_24, ↓w75_26, ↓w75_29, ↓w75_30, ↓w75_33, ↓w75_35, ↓w75_36, ↓w75_38, ↓w75_41, ↓w75_44, ↓w75_45, ↓w75_48, ↓w75_49, ↓w75_51, ↓w75_54, ↓w75_55, ↓w75_56, ↓w75_57, ↓w75_58, ↓w75_59, ↓w75_62, ↓w75_63, ↓w75_64, ↓w75_67, ↓w75_70, ↓w75_71, ↓w75_75, ↓w75_77, ↓w75_80, ↓w75_81, ↓w75_85, ↓w75_87, ↓w75_90, ↓w75_91, ↓w75_94, ↓w75_96, ↓w75_97, ↓w75_99, ↓w75_100, ↓w75_101, ↓w75_102, ↓w75_105, ↓w75_106, ↓w75_109, ↓w75_111, ↓w75_112, ↓w75_113, ↓w75_114, ↓w75_117, ↓w75_119, ↓w75_120, ↓w75_121, ↓w75_122, ↓w75_125, ↓w75_128, ↓w75_131, ↓w75_134, ↓kc_i, ↓kc_l, ↓kc_r, ↓kc_n, rc126, g126_0, g126_1, g126_2, p126_2, gi127, si127, mul8, mul8', mul4, mul4', nI_add, inT, nclN, ltT, ltF, leT, leF, eqT, eqF, nzF, m1F, m1T, shr, shg, bI0, bI1, bo_bI, bo_1, bo_0, eq10, eq00, frT1, frT2, frT3, fit0, fit1, fit2, fit3, true_and, and_true, ↓reduceIte, Nat.reduceAdd, Nat.reduceMul, and_self, not_false_eq_true, not_true_eq_false, Nat.zero_add, Nat.add_zero]
      exact k_look1 (by omega) _
  obtain ⟨t1, h1⟩ := key 8 (Nat.le_refl 8)
  rw [h1]
  refine w75_73.trans ?_
  simp (discharger := omega) only [↓w75_0, ↓w75_1, ↓w75_2, ↓w75_3, ↓w75_4, ↓w75_5, ↓w75_8, ↓w75_11, ↓w75_12, ↓w75_13, ↓w75_14, ↓w75_15, ↓w75_18, ↓w75_19, ↓w75_20, ↓w75_24, ↓w75_26, ↓w75_29, ↓w75_30, ↓w75_33, ↓w75_35, ↓w75_36, ↓w75_38, ↓w75_41, ↓w75_44, ↓w75_45, ↓w75_48, ↓w75_49, ↓w75_51, ↓w75_54, ↓w75_55, ↓w75_56, ↓w75_57, ↓w75_58, ↓w75_59, ↓w75_62, ↓w75_63, ↓w75_64, ↓w75_67, ↓w75_70, ↓w75_71, ↓w75_75, ↓w75_77, ↓w75_80, ↓w75_81, ↓w75_85, ↓w75_87, ↓w75_90, ↓w75_91, ↓w75_94, ↓w75_96, ↓w75_97, ↓w75_99, ↓w75_100, ↓w75_101, ↓w75_102, ↓w75_105, ↓w75_106, ↓w75_109, ↓w75_111, ↓w75_112, ↓w75_113, ↓w75_114, ↓w75_117, ↓w75_119, ↓w75_120, ↓w75_121, ↓w75_122, ↓w75_125, ↓w75_128, ↓w75_131, ↓w75_134, ↓kc_i, ↓kc_l, ↓kc_r, ↓kc_n, rc126, g126_0, g126_1, g126_2, p126_2, gi127, si127, mul8, mul8', mul4, mul4', nI_add, inT, nclN, ltT, ltF, leT, leF, eqT, eqF, nzF, m1F, m1T, shr, shg, bI0, bI1, bo_bI, bo_1, bo_0, eq10, eq00, frT1, frT2, frT3, fit0, fit1, fit2, fit3, true_and, and_true, ↓reduceIte, Nat.reduceAdd, Nat.reduceMul, and_self, not_false_eq_true, not_true_eq_false, Nat.zero_add, Nat.add_zero]
theorem k_lookAt (hs : isS s) (hr : r < 5) :
    Wp L xs (d+2) 75 0 [some (.ref (126)), some (.ref (s)), some (.int (nI r)), none, none, none] [] (mk I J R Z) P = P none (mk (lkI I (cAt (I (s + 1)) r (nI 3) (nI 3)) (lns (I (s + 1)) (I (s + 4)) r (I 127))) J R Z) := by
  have hs1 := hs.1
  simp (discharger := omega) only [↓w75_0, ↓w75_1, ↓w75_2, ↓w75_3, ↓w75_4, ↓w75_5, ↓w75_8, ↓w75_11, ↓w75_12, ↓w75_13, ↓w75_14, ↓w75_15, ↓w75_18, ↓w75_19, ↓w75_20, ↓w75_24, ↓w75_26, ↓w75_29, ↓w75_30, ↓w75_33, ↓w75_35, ↓w75_36, ↓w75_38, ↓w75_41, ↓w75_44, ↓w75_45, ↓w75_48, ↓w75_49, ↓w75_51, ↓w75_54, ↓w75_55, ↓w75_56, ↓w75_57, ↓w75_58, ↓w75_59, ↓w75_62, ↓w75_63, ↓w75_64, ↓w75_67, ↓w75_70, ↓w75_71, ↓w75_75, ↓w75_77, ↓w75_80, ↓w75_81, ↓w75_85, ↓w75_87, ↓w75_90, ↓w75_91, ↓w75_94, ↓w75_96, ↓w75_97, ↓w75_99, ↓w75_100, ↓w75_101, ↓w75_102, ↓w75_105, ↓w75_106, ↓w75_109, ↓w75_111, ↓w75_112, ↓w75_113, ↓w75_114, ↓w75_117, ↓w75_119, ↓w75_120, ↓w75_121, ↓w75_122, ↓w75_125, ↓w75_128, ↓w75_131, ↓w75_134, ↓k_commandsAt' hs, ↓kc_i, ↓kc_l, ↓kc_r, ↓kc_n, gS0 hs, gS1 hs, gS2 hs, gS3 hs, gS4 hs, gS5 hs, gS6 hs, gS7 hs, gS8 hs, gS9 hs, gS10 hs, gS11 hs, gS12 hs, giS1 hs, giS2 hs, giS3 hs, giS4 hs, giS5 hs, giS6 hs, giS7 hs, giS8 hs, giS9 hs, giS10 hs, giS11 hs, siS1 hs, siS2 hs, siS3 hs, siS4 hs, siS5 hs, siS6 hs, siS7 hs, siS8 hs, siS9 hs, siS10 hs, siS11 hs, pS0 hs, pS1 hs, rcS hs, rc126, g126_0, g126_1, g126_2, p126_2, st_ne, mul8, mul8', mul4, mul4', nI_add, inT, nclN, ltT, ltF, leT, leF, eqT, eqF, nzF, m1F, m1T, shr, shg, bI0, bI1, bo_bI, bo_1, bo_0, eq10, eq00, frT1, frT2, frT3, fit0, fit1, fit2, fit3, true_and, and_true, ↓reduceIte, Nat.reduceAdd, Nat.reduceMul, and_self, not_false_eq_true, not_true_eq_false, Nat.zero_add, Nat.add_zero]
  unfold lns wsh
  generalize cAt (I (s + 1)) r (nI 3) (nI 3) = com
  generalize cAt (I (s + 1)) r (nI 4) (nI 4) = dn
  refine Eq.trans (congrArg (fun q => Wp L xs (d+2) 75 22 [some (.ref (126)), some (.ref (s)), some (.int (nI r)), some (.int (dn)), some (.int (nI 0)), none] [] (mk q J R Z) P) (show st I 126 (upd (I 126) 2 com) = lkI I com (I 127) by unfold lkI; rw [show I 127 = st I 126 (upd (I 126) 2 com) 127 from (st_ne (by decide)).symm, st_id])) ?_
  refine lp_to (F := fun i f => Wp L xs (d+2) 75 22 [some (.ref (126)), some (.ref (s)), some (.int (nI r)), some (.int (dn)), some (.int (nI i)), none] [] (mk (lkI I com f) J R Z) P) (B := fun c f => upd f c (if tb com c = true then I (s + 4) (8 * r + c) &&& (dn ^^^ (-1)) else nI 0)) 8 (I 127) ?_ ?_
  · intro i f hi
    refine w75_22.trans ?_
    unfold lkI
    simp (discharger := omega) only [↓w75_0, ↓w75_1, ↓w75_2, ↓w75_3, ↓w75_4, ↓w75_5, ↓w75_8, ↓w75_11, ↓w75_12, ↓w75_13, ↓w75_14, ↓w75_15, ↓w75_18, ↓w75_19, ↓w75_20, ↓w75_24, ↓w75_26, ↓w75_29, ↓w75_30, ↓w75_33, ↓w75_35, ↓w75_36, ↓w75_38, ↓w75_41, ↓w75_44, ↓w75_45, ↓w75_48, ↓w75_49, ↓w75_51, ↓w75_54, ↓w75_55, ↓w75_56, ↓w75_57, ↓w75_58, ↓w75_59, ↓w75_62, ↓w75_63, ↓w75_64, ↓w75_67, ↓w75_70, ↓w75_71, ↓w75_75, ↓w75_77, ↓w75_80, ↓w75_81, ↓w75_85, ↓w75_87, ↓w75_90, ↓w75_91, ↓w75_94, ↓w75_96, ↓w75_97, ↓w75_99, ↓w75_100, ↓w75_101, ↓w75_102, ↓w75_105, ↓w75_106, ↓w75_109, ↓w75_111, ↓w75_112, ↓w75_113, ↓w75_114, ↓w75_117, ↓w75_119, ↓w75_120, ↓w75_121, ↓w75_122, ↓w75_125, ↓w75_128, ↓w75_131, ↓w75_134, ↓k_isCommitted, ↓k_cellOf, ↓kc_i, ↓kc_l, ↓kc_r, ↓kc_n, gS0 hs, gS1 hs, gS2 hs, gS3 hs, gS4 hs, gS5 hs, gS6 hs, gS7 hs, gS8 hs, gS9 hs, gS10 hs, gS11 hs, gS12 hs, giS1 hs, giS2 hs, giS3 hs, giS4 hs, giS5 hs, giS6 hs, giS7 hs, giS8 hs, giS9 hs, giS10 hs, giS11 hs, siS1 hs, siS2 hs, siS3 hs, siS4 hs, siS5 hs, siS6 hs, siS7 hs, siS8 hs, siS9 hs, siS10 hs, siS11 hs, pS0 hs, pS1 hs, rcS hs, rc126, g126_0, g126_1, g126_2, p126_2, gi127, si127, st_ne, st_eq, st_st, upd_eq, mul8, mul8', mul4, mul4', nI_add, inT, nclN, ltT, ltF, leT, leF, eqT, eqF, nzF, m1F, m1T, shr, shg, bI0, bI1, bo_bI, bo_1, bo_0, eq10, eq00, frT1, frT2, frT3, fit0, fit1, fit2, fit3, true_and, and_true, ↓reduceIte, Nat.reduceAdd, Nat.reduceMul, and_self, not_false_eq_true, not_true_eq_false, Nat.zero_add, Nat.add_zero]
    cases tb com i <;> simp
  · refine w75_22.trans ?_
    simp (discharger := omega) only [↓w75_0, ↓w75_1, ↓w75_2, ↓w75_3, ↓w75_4, ↓w75_5, ↓w75_8, ↓w75_11, ↓w75_12, ↓w75_13, ↓w75_14, ↓w75_15, ↓w75_18, ↓w75_19, ↓w75_20, ↓w75_24, ↓w75_26, ↓w75_29, ↓w75_30, ↓w75_33, ↓w75_35, ↓w75_36, ↓w75_38, ↓w75_41, ↓w75_44, ↓w75_45, ↓w75_48, ↓w75_49, ↓w75_51, ↓w75_54, ↓w75_55, ↓w75_56, ↓w75_57, ↓w75_58, ↓w75_59, ↓w75_62, ↓w75_63, ↓w75_64, ↓w75_67, ↓w75_70, ↓w75_71, ↓w75_75, ↓w75_77, ↓w75_80, ↓w75_81, ↓w75_85, ↓w75_87, ↓w75_90, ↓w75_91, ↓w75_94, ↓w75_96, ↓w75_97, ↓w75_99, ↓w75_100, ↓w75_101, ↓w75_102, ↓w75_105, ↓w75_106, ↓w75_109, ↓w75_111, ↓w75_112, ↓w75_113, ↓w75_114, ↓w75_117, ↓w75_119, ↓w75_120, ↓w75_121, ↓w75_122, ↓w75_125, ↓w75_128, ↓w75_131, ↓w75_134, ↓kc_i, ↓kc_l, ↓kc_r, ↓kc_n, gS0 hs, gS1 hs, gS2 hs, gS3 hs, gS4 hs, gS5 hs, gS6 hs, gS7 hs, gS8 hs, gS9 hs, gS10 hs, gS11 hs, gS12 hs, giS1 hs, giS2 hs, giS3 hs, giS4 hs, giS5 hs, giS6 hs, giS7 hs, giS8 hs, giS9 hs, giS10 hs, giS11 hs, siS1 hs, siS2 hs, siS3 hs, siS4 hs, siS5 hs, siS6 hs, siS7 hs, siS8 hs, siS9 hs, siS10 hs, siS11 hs, pS0 hs, pS1 hs, rcS hs, rc126, g126_0, g126_1, g126_2, p126_2, gi127, si127, mul8, mul8', mul4, mul4', nI_add, inT, nclN, ltT, ltF, leT, leF, eqT, eqF, nzF, m1F, m1T, shr, shg, bI0, bI1, bo_bI, bo_1, bo_0, eq10, eq00, frT1, frT2, frT3, fit0, fit1, fit2, fit3, true_and, and_true, ↓reduceIte, Nat.reduceAdd, Nat.reduceMul, and_self, not_false_eq_true, not_true_eq_false, Nat.zero_add, Nat.add_zero]
    change Wp L xs (d+2) 75 73 [some (.ref (126)), some (.ref (s)), some (.int (nI r)), some (.int (dn)), some (.int (nI 0)), none] [] (mk (lkI I com (lk0 com dn (I (s+4)) r (I 127))) J R Z) P = _
    exact k_look2 _ none
def prt (ln : Nat → Int32) (c : Nat) : Int32 := lp (fun o a => if (tb (ln c) o && tb (ln o) c) = true then a ||| sg o else a) 8 (sg c)
theorem k_partOf (hc : c < 8) : Wp L xs d 77 0 [some (.ref (126)), some (.int (nI c)), none, none] [] (mk I J R Z) P = P (some (.int (prt (I 127) c))) (mk I J R Z) := by
  simp (discharger := omega) only [↓w77_0, ↓w77_1, ↓w77_2, ↓w77_3, ↓w77_4, ↓w77_5, ↓w77_7, ↓w77_9, ↓w77_12, ↓w77_13, ↓w77_16, ↓w77_17, ↓w77_18, ↓w77_19, ↓w77_20, ↓w77_21, ↓w77_22, ↓w77_25, ↓w77_26, ↓w77_29, ↓w77_30, ↓w77_31, ↓w77_32, ↓w77_33, ↓w77_34, ↓w77_35, ↓w77_38, ↓w77_39, ↓w77_40, ↓w77_41, ↓w77_42, ↓w77_43, ↓w77_44, ↓w77_47, ↓w77_50, ↓w77_51, mul8, mul8', mul4, mul4', nI_add, inT, nclN, ltT, ltF, leT, leF, eqT, eqF, nzF, m1F, m1T, shr, shg, bI0, bI1, bo_bI, bo_1, bo_0, eq10, eq00, frT1, frT2, frT3, fit0, fit1, fit2, fit3, true_and, and_true, ↓reduceIte, Nat.reduceAdd, Nat.reduceMul, and_self, not_false_eq_true, not_true_eq_false, Nat.zero_add, Nat.add_zero]
  refine lp_to (F := fun i a => Wp L xs d 77 6 [some (.ref (126)), some (.int (nI c)), some (.int (a)), some (.int (nI i))] [] (mk I J R Z) P) (B := fun o a => if (tb (I 127 c) o && tb (I 127 o) c) = true then a ||| sg o else a) 8 (sg c) ?_ ?_
  · intro i a hi
    refine w77_6.trans ?_
    simp (discharger := omega) only [↓w77_0, ↓w77_1, ↓w77_2, ↓w77_3, ↓w77_4, ↓w77_5, ↓w77_7, ↓w77_9, ↓w77_12, ↓w77_13, ↓w77_16, ↓w77_17, ↓w77_18, ↓w77_19, ↓w77_20, ↓w77_21, ↓w77_22, ↓w77_25, ↓w77_26, ↓w77_29, ↓w77_30, ↓w77_31, ↓w77_32, ↓w77_33, ↓w77_34, ↓w77_35, ↓w77_38, ↓w77_39, ↓w77_40, ↓w77_41, ↓w77_42, ↓w77_43, ↓w77_44, ↓w77_47, ↓w77_50, ↓w77_51, rc126, g126_0, g126_1, g126_2, p126_2, gi127, si127, mul8, mul8', mul4, mul4', nI_add, inT, nclN, ltT, ltF, leT, leF, eqT, eqF, nzF, m1F, m1T, shr, shg, bI0, bI1, bo_bI, bo_1, bo_0, eq10, eq00, frT1, frT2, frT3, fit0, fit1, fit2, fit3, true_and, and_true, ↓reduceIte, Nat.reduceAdd, Nat.reduceMul, and_self, not_false_eq_true, not_true_eq_false, Nat.zero_add, Nat.add_zero]
    cases tb (I 127 c) i
    · simp
    · cases tb (I 127 i) c <;> simp
  · refine w77_6.trans ?_
    simp (discharger := omega) only [↓w77_0, ↓w77_1, ↓w77_2, ↓w77_3, ↓w77_4, ↓w77_5, ↓w77_7, ↓w77_9, ↓w77_12, ↓w77_13, ↓w77_16, ↓w77_17, ↓w77_18, ↓w77_19, ↓w77_20, ↓w77_21, ↓w77_22, ↓w77_25, ↓w77_26, ↓w77_29, ↓w77_30, ↓w77_31, ↓w77_32, ↓w77_33, ↓w77_34, ↓w77_35, ↓w77_38, ↓w77_39, ↓w77_40, ↓w77_41, ↓w77_42, ↓w77_43, ↓w77_44, ↓w77_47, ↓w77_50, ↓w77_51, mul8, mul8', mul4, mul4', nI_add, inT, nclN, ltT, ltF, leT, leF, eqT, eqF, nzF, m1F, m1T, shr, shg, bI0, bI1, bo_bI, bo_1, bo_0, eq10, eq00, frT1, frT2, frT3, fit0, fit1, fit2, fit3, true_and, and_true, ↓reduceIte, Nat.reduceAdd, Nat.reduceMul, and_self, not_false_eq_true, not_true_eq_false, Nat.zero_add, Nat.add_zero]
    rfl
def free (com : Int32) (ln : Nat → Int32) (c : Nat) : Bool := tb com c && decide (ln c &&& (prt ln c ^^^ (-1)) = nI 0)
theorem k_leastFree (hs : isS s) (hr : r < 5) (hM : I 76 2 = nI M) (h8 : M ≤ 8) : Wp L xs (d+2) 79 0 [some (.ref (126)), some (.ref (s)), some (.int (nI r)), none, none] [] (mk I J R Z) P = P (some (.int (oN (lst (free (I 126 2) (I 127)) (I (s + 3)) r M)))) (mk I J R Z) := by
  simp (discharger := omega) only [↓w79_0, ↓w79_1, ↓w79_2, ↓w79_3, ↓w79_7, ↓w79_8, ↓w79_11, ↓w79_14, ↓w79_17, ↓w79_18, ↓w79_20, ↓w79_23, ↓w79_26, ↓w79_27, ↓w79_30, ↓w79_32, ↓w79_33, ↓w79_34, ↓w79_36, ↓w79_39, ↓w79_40, ↓w79_41, ↓w79_42, ↓w79_45, ↓w79_46, ↓w79_47, ↓w79_48, ↓w79_50, ↓w79_53, ↓w79_54, ↓w79_57, ↓w79_60, ↓w79_61, mul8, mul8', mul4, mul4', nI_add, inT, nclN, ltT, ltF, leT, leF, eqT, eqF, nzF, m1F, m1T, shr, shg, bI0, bI1, bo_bI, bo_1, bo_0, eq10, eq00, frT1, frT2, frT3, fit0, fit1, fit2, fit3, true_and, and_true, ↓reduceIte, Nat.reduceAdd, Nat.reduceMul, and_self, not_false_eq_true, not_true_eq_false, Nat.zero_add, Nat.add_zero]
  have key : ∀ n, n ≤ M → Wp L xs (d+2) 79 5 [some (.ref (126)), some (.ref (s)), some (.int (nI r)), some (.int (-1)), some (.int (nI 0))] [] (mk I J R Z) P = Wp L xs (d+2) 79 5 [some (.ref (126)), some (.ref (s)), some (.int (nI r)), some (.int (oN (lst (free (I 126 2) (I 127)) (I (s + 3)) r n))), some (.int (nI n))] [] (mk I J R Z) P := by
    intro n
    induction n with
    | zero => intro _; rfl
    | succ n ih =>
      intro hn
      rw [ih (by omega)]
      refine w79_5.trans ?_
      have hb : ∀ q, lst (free (I 126 2) (I 127)) (I (s + 3)) r n = some q → q < 8 := fun q hq => by have := lst_lt hq; omega
      simp (discharger := omega) only [↓w79_0, ↓w79_1, ↓w79_2, ↓w79_3, ↓w79_7, ↓w79_8, ↓w79_11, ↓w79_14, ↓w79_17, ↓w79_18, ↓w79_20, ↓w79_23, ↓w79_26, ↓w79_27, ↓w79_30, ↓w79_32, ↓w79_33, ↓w79_34, ↓w79_36, ↓w79_39, ↓w79_40, ↓w79_41, ↓w79_42, ↓w79_45, ↓w79_46, ↓w79_47, ↓w79_48, ↓w79_50, ↓w79_53, ↓w79_54, ↓w79_57, ↓w79_60, ↓w79_61, ↓k_isCommitted, ↓k_partOf, ↓k_lesser hs (show n < 8 by omega) hr hb, ↓kc_i, ↓kc_l, ↓kc_r, ↓kc_n, rc126, g126_0, g126_1, g126_2, p126_2, gi127, si127, rc76, g76_0, p76_0, g76_1, p76_1, g76_2, p76_2, g76_3, g76_4, g76_5, g76_6, g76_7, g76_8, hM, mul8, mul8', mul4, mul4', nI_add, inT, nclN, ltT, ltF, leT, leF, eqT, eqF, nzF, m1F, m1T, shr, shg, bI0, bI1, bo_bI, bo_1, bo_0, eq10, eq00, frT1, frT2, frT3, fit0, fit1, fit2, fit3, true_and, and_true, ↓reduceIte, Nat.reduceAdd, Nat.reduceMul, and_self, not_false_eq_true, not_true_eq_false, Nat.zero_add, Nat.add_zero]
      show _ = Wp L xs (d+2) 79 5 [some (.ref (126)), some (.ref (s)), some (.int (nI r)), some (.int (oN (if free (I 126 2) (I 127) n = true then les (I (s + 3)) r (lst (free (I 126 2) (I 127)) (I (s + 3)) r n) n else lst (free (I 126 2) (I 127)) (I (s + 3)) r n))), some (.int (nI (n + 1)))] [] (mk I J R Z) P
      generalize lst (free (I 126 2) (I 127)) (I (s + 3)) r n = q
      unfold free
      generalize prt (I 127) n ^^^ (-1) = w
      cases tb (I 126 2) n
      · simp
      · by_cases h : I 127 n &&& w = nI 0 <;> simp [h]
  rw [key M (Nat.le_refl M)]
  refine w79_5.trans ?_
  simp (discharger := omega) only [↓w79_0, ↓w79_1, ↓w79_2, ↓w79_3, ↓w79_7, ↓w79_8, ↓w79_11, ↓w79_14, ↓w79_17, ↓w79_18, ↓w79_20, ↓w79_23, ↓w79_26, ↓w79_27, ↓w79_30, ↓w79_32, ↓w79_33, ↓w79_34, ↓w79_36, ↓w79_39, ↓w79_40, ↓w79_41, ↓w79_42, ↓w79_45, ↓w79_46, ↓w79_47, ↓w79_48, ↓w79_50, ↓w79_53, ↓w79_54, ↓w79_57, ↓w79_60, ↓w79_61, rc126, g126_0, g126_1, g126_2, p126_2, rc76, g76_0, p76_0, g76_1, p76_1, g76_2, p76_2, g76_3, g76_4, g76_5, g76_6, g76_7, g76_8, hM, mul8, mul8', mul4, mul4', nI_add, inT, nclN, ltT, ltF, leT, leF, eqT, eqF, nzF, m1F, m1T, shr, shg, bI0, bI1, bo_bI, bo_1, bo_0, eq10, eq00, frT1, frT2, frT3, fit0, fit1, fit2, fit3, true_and, and_true, ↓reduceIte, Nat.reduceAdd, Nat.reduceMul, and_self, not_false_eq_true, not_true_eq_false, Nat.zero_add, Nat.add_zero]
end K7
