section K10
variable {L : Nat} {xs : Nat → Int32} {d : Nat} {P : Option Value → Hp → Prop} {I : Mi} {J : Mj} {R : Mr} {Z : Mz} {s t o n m k nx mn0 : Nat} {x y z : Int32} {V : Vw}
/-- Triples at t: so many, and the three rows -/
def trp (I : Mi) (t m : Nat) (f g h : Nat → Int32) : Mi := st (st (st (st I (t + 1) f) (t + 2) g) (t + 3) h) t (upd (I t) 0 (nI m))
def mix (f g : Nat → Int32) (i : Nat) : Nat → Int32 := fun k => if k < i then f k else g k
theorem mix_0 {f g : Nat → Int32} : mix f g 0 = g := by funext k; unfold mix; simp
theorem mix_s {f g : Nat → Int32} {i : Nat} : upd (mix f g i) i (f i) = mix f g (i + 1) := by
  funext k; unfold mix upd
  by_cases h1 : k = i
  · subst h1; simp
  · by_cases h2 : k < i
    · simp [h1, h2, show k < i + 1 by omega]
    · simp [h1, h2, show ¬ k < i + 1 by omega]
theorem trp_ne {f g h : Nat → Int32} {a : Nat} (ha : a < t ∨ t + 4 ≤ a) : trp I t m f g h a = I a := by
  unfold trp; rw [st_ne (by omega), st_ne (by omega), st_ne (by omega), st_ne (by omega)]
theorem trp_0 {f g h : Nat → Int32} : trp I t m f g h t = upd (I t) 0 (nI m) := by unfold trp; rw [st_eq]
theorem trp_1 {f g h : Nat → Int32} : trp I t m f g h (t + 1) = f := by unfold trp; rw [st_ne (by omega), st_ne (by omega), st_ne (by omega), st_eq]
theorem trp_2 {f g h : Nat → Int32} : trp I t m f g h (t + 2) = g := by unfold trp; rw [st_ne (by omega), st_ne (by omega), st_eq]
theorem trp_3 {f g h : Nat → Int32} : trp I t m f g h (t + 3) = h := by unfold trp; rw [st_ne (by omega), st_eq]
theorem trp_id {f : Nat → Int32} : st I t (upd (I t) 0 (nI m)) = trp I t m (I (t + 1)) (I (t + 2)) (I (t + 3)) := by
  unfold trp
  rw [st_id, st_id, st_id]
theorem trp_trp {m' : Nat} {f g h f' g' h' : Nat → Int32} : trp (trp I t m f g h) t m' f' g' h' = trp I t m' f' g' h' := by
  funext a
  by_cases ha : a < t ∨ t + 4 ≤ a
  · rw [trp_ne ha, trp_ne ha, trp_ne ha]
  · have hj : a = t ∨ a = t + 1 ∨ a = t + 2 ∨ a = t + 3 := by omega
    rcases hj with rfl | rfl | rfl | rfl
    · rw [trp_0, trp_0, trp_0, upd_upd]
    · rw [trp_1, trp_1]
    · rw [trp_2, trp_2]
    · rw [trp_3, trp_3]
theorem k_tadd (ht : isT t n) (hm : I t 0 = nI m) (hmn : m ≤ n) : Wp L xs d 110 0 [some (.ref (t)), some (.int (x)), some (.int (y)), some (.int (z))] [] (mk I J R Z) P = if m < n then P (some (.int (nI 1))) (mk (trp I t (m + 1) (upd (I (t + 1)) m x) (upd (I (t + 2)) m y) (upd (I (t + 3)) m z)) J R Z) else P (some (.int (nI 0))) (mk I J R Z) := by
  have ht1 := ht.1
  have ht2 := ht.2.1
  by_cases h : m < n
  · simp (discharger := omega) only [↓w110_0, ↓w110_1, ↓w110_4, ↓w110_5, ↓w110_8, ↓w110_9, ↓w110_12, ↓w110_13, ↓w110_14, ↓w110_15, ↓w110_18, ↓w110_19, ↓w110_22, ↓w110_23, ↓w110_24, ↓w110_25, ↓w110_28, ↓w110_29, ↓w110_32, ↓w110_33, ↓w110_34, ↓w110_35, ↓w110_38, ↓w110_39, ↓w110_42, ↓w110_43, ↓w110_44, ↓w110_45, ↓w110_46, ↓w110_49, ↓w110_50, ↓w110_51, ↓w110_54, ↓w110_55, gT0 ht, gT1 ht, gT2 ht, gT3 ht, giT1 ht, giT2 ht, giT3 ht, siT1 ht, siT2 ht, siT3 ht, pT0 ht, rcT ht, alT1 ht, hm, st_ne, st_eq, mul8, mul8', mul4, mul4', nI_add, inT, nclN, ltT, ltF, leT, leF, eqT, eqF, nzF, m1F, m1T, shr, shg, bI0, bI1, bo_bI, bo_1, bo_0, eq10, eq00, frT1, frT2, frT3, fit0, fit1, fit2, fit3, true_and, and_true, ↓reduceIte, Nat.reduceAdd, Nat.reduceMul, and_self, not_false_eq_true, not_true_eq_false, Nat.zero_add, Nat.add_zero, h]
    rfl
  · simp (discharger := omega) only [↓w110_0, ↓w110_1, ↓w110_4, ↓w110_5, ↓w110_8, ↓w110_9, ↓w110_12, ↓w110_13, ↓w110_14, ↓w110_15, ↓w110_18, ↓w110_19, ↓w110_22, ↓w110_23, ↓w110_24, ↓w110_25, ↓w110_28, ↓w110_29, ↓w110_32, ↓w110_33, ↓w110_34, ↓w110_35, ↓w110_38, ↓w110_39, ↓w110_42, ↓w110_43, ↓w110_44, ↓w110_45, ↓w110_46, ↓w110_49, ↓w110_50, ↓w110_51, ↓w110_54, ↓w110_55, gT0 ht, gT1 ht, gT2 ht, gT3 ht, giT1 ht, giT2 ht, giT3 ht, siT1 ht, siT2 ht, siT3 ht, pT0 ht, rcT ht, alT1 ht, hm, st_ne, st_eq, mul8, mul8', mul4, mul4', nI_add, inT, nclN, ltT, ltF, leT, leF, eqT, eqF, nzF, m1F, m1T, shr, shg, bI0, bI1, bo_bI, bo_1, bo_0, eq10, eq00, frT1, frT2, frT3, fit0, fit1, fit2, fit3, true_and, and_true, ↓reduceIte, Nat.reduceAdd, Nat.reduceMul, and_self, not_false_eq_true, not_true_eq_false, Nat.zero_add, Nat.add_zero, h]
theorem k_tcopy (ht : isT t n) (ho : isT o n) (hd : t + 4 ≤ o ∨ o + 4 ≤ t) (hm : I o 0 = nI m) (hmn : m ≤ n) : Wp L xs (d+1) 111 0 [some (.ref (t)), some (.ref (o)), none] [] (mk I J R Z) P = P none (mk (trp I t m (mix (I (o + 1)) (I (t + 1)) m) (mix (I (o + 2)) (I (t + 2)) m) (mix (I (o + 3)) (I (t + 3)) m)) J R Z) := by
  have ht1 := ht.1
  have ho1 := ho.1
  have ho2 := ho.2.1
  simp (discharger := omega) only [↓w111_0, ↓w111_1, ↓w111_2, ↓w111_5, ↓w111_6, ↓w111_8, ↓w111_9, ↓w111_12, ↓w111_15, ↓w111_16, ↓w111_17, ↓w111_20, ↓w111_21, ↓w111_22, ↓w111_23, ↓w111_26, ↓w111_27, ↓w111_28, ↓w111_29, ↓w111_32, ↓w111_33, ↓w111_34, ↓w111_37, ↓w111_38, ↓w111_41, ↓w111_44, gT0 ht, gT1 ht, gT2 ht, gT3 ht, giT1 ht, giT2 ht, giT3 ht, siT1 ht, siT2 ht, siT3 ht, pT0 ht, rcT ht, alT1 ht, mul8, mul8', mul4, mul4', nI_add, inT, nclN, ltT, ltF, leT, leF, eqT, eqF, nzF, m1F, m1T, shr, shg, bI0, bI1, bo_bI, bo_1, bo_0, eq10, eq00, frT1, frT2, frT3, fit0, fit1, fit2, fit3, true_and, and_true, ↓reduceIte, Nat.reduceAdd, Nat.reduceMul, and_self, not_false_eq_true, not_true_eq_false, Nat.zero_add, Nat.add_zero]
  rw [trp_id (f := I t)]
  have key : ∀ i, i ≤ m → Wp L xs (d+1) 111 7 [some (.ref (t)), some (.ref (o)), some (.int (nI 0))] [] (mk (trp I t 0 (I (t + 1)) (I (t + 2)) (I (t + 3))) J R Z) P = Wp L xs (d+1) 111 7 [some (.ref (t)), some (.ref (o)), some (.int (nI i))] [] (mk (trp I t i (mix (I (o + 1)) (I (t + 1)) i) (mix (I (o + 2)) (I (t + 2)) i) (mix (I (o + 3)) (I (t + 3)) i)) J R Z) P := by
    intro i
    induction i with
    | zero => intro _; rw [mix_0, mix_0, mix_0]
    | succ i ih =>
      intro hi
      rw [ih (by omega)]
      refine w111_7.trans ?_
      have had := fun (x y z : Int32) (P : Option Value → Hp → Prop) => (k_tadd (L := L) (xs := xs) (d := d) (J := J) (R := R) (Z := Z) (I := trp I t i (mix (I (o + 1)) (I (t + 1)) i) (mix (I (o + 2)) (I (t + 2)) i) (mix (I (o + 3)) (I (t + 3)) i)) (P := P) (x := x) (y := y) (z := z) ht (m := i) (by rw [trp_0, upd_eq]) (by omega)).trans (if_pos (by omega))
      simp (discharger := omega) only [↓w111_0, ↓w111_1, ↓w111_2, ↓w111_5, ↓w111_6, ↓w111_8, ↓w111_9, ↓w111_12, ↓w111_15, ↓w111_16, ↓w111_17, ↓w111_20, ↓w111_21, ↓w111_22, ↓w111_23, ↓w111_26, ↓w111_27, ↓w111_28, ↓w111_29, ↓w111_32, ↓w111_33, ↓w111_34, ↓w111_37, ↓w111_38, ↓w111_41, ↓w111_44, gT0 ho, gT1 ho, gT2 ho, gT3 ho, giT1 ho, giT2 ho, giT3 ho, siT1 ho, siT2 ho, siT3 ho, pT0 ho, rcT ho, alT1 ho, rcT ht, ↓had, ↓kc_i, ↓kc_l, ↓kc_r, ↓kc_n, trp_ne, trp_1, trp_2, trp_3, trp_trp, hm, mul8, mul8', mul4, mul4', nI_add, inT, nclN, ltT, ltF, leT, leF, eqT, eqF, nzF, m1F, m1T, shr, shg, bI0, bI1, bo_bI, bo_1, bo_0, eq10, eq00, frT1, frT2, frT3, fit0, fit1, fit2, fit3, true_and, and_true, ↓reduceIte, Nat.reduceAdd, Nat.reduceMul, and_self, not_false_eq_true, not_true_eq_false, Nat.zero_add, Nat.add_zero, mix_s]
  rw [key m (Nat.le_refl m)]
  refine w111_7.trans ?_
  simp (discharger := omega) only [↓w111_0, ↓w111_1, ↓w111_2, ↓w111_5, ↓w111_6, ↓w111_8, ↓w111_9, ↓w111_12, ↓w111_15, ↓w111_16, ↓w111_17, ↓w111_20, ↓w111_21, ↓w111_22, ↓w111_23, ↓w111_26, ↓w111_27, ↓w111_28, ↓w111_29, ↓w111_32, ↓w111_33, ↓w111_34, ↓w111_37, ↓w111_38, ↓w111_41, ↓w111_44, gT0 ho, gT1 ho, gT2 ho, gT3 ho, giT1 ho, giT2 ho, giT3 ho, siT1 ho, siT2 ho, siT3 ho, pT0 ho, rcT ho, alT1 ho, trp_ne, hm, mul8, mul8', mul4, mul4', nI_add, inT, nclN, ltT, ltF, leT, leF, eqT, eqF, nzF, m1F, m1T, shr, shg, bI0, bI1, bo_bI, bo_1, bo_0, eq10, eq00, frT1, frT2, frT3, fit0, fit1, fit2, fit3, true_and, and_true, ↓reduceIte, Nat.reduceAdd, Nat.reduceMul, and_self, not_false_eq_true, not_true_eq_false, Nat.zero_add, Nat.add_zero]
theorem k_note (hs : isS s) (hs2 : s < 120 ∨ 335 ≤ s) (hn : I 129 1 = nI nx) (h17 : nx < 17) (hcs : cS (vw I s)) (hct : cS (vw I (131 + 12 * nx))) : Wp L xs (d+2) 11 0 [some (.ref (129)), some (.ref (s))] [] (mk I J R Z) P = P none (mk (putS I (131 + 12 * nx) (vw I s)) J R Z) := by
  have hc := fun P => k_copyFrom (L := L) (xs := xs) (d := d) (I := I) (J := J) (R := R) (Z := Z) (P := P) hs (isS_sl nx h17) (by omega) hcs hct
  simp (discharger := omega) only [↓w11_0, ↓w11_1, ↓w11_4, ↓w11_5, ↓w11_8, ↓w11_9, ↓w11_10, ↓w11_13, rc129, g129_0, g129_1, p129_1, g129_2, p129_2, rcS (isS_sl nx h17), gr130, hn, ↓hc, ↓kc_i, ↓kc_l, ↓kc_r, ↓kc_n, mul8, mul8', mul4, mul4', nI_add, inT, nclN, ltT, ltF, leT, leF, eqT, eqF, nzF, m1F, m1T, shr, shg, bI0, bI1, bo_bI, bo_1, bo_0, eq10, eq00, frT1, frT2, frT3, fit0, fit1, fit2, fit3, true_and, and_true, ↓reduceIte, Nat.reduceAdd, Nat.reduceMul, and_self, not_false_eq_true, not_true_eq_false, Nat.zero_add, Nat.add_zero]
theorem k_keep (hn : I 129 1 = nI nx) (h17 : nx < 17) (hm : I 129 2 = nI mn0) (h16 : mn0 ≤ 16) : Wp L xs (d+1) 12 0 [some (.ref (129))] [] (mk I J R Z) P = P none (mk (st I 129 (upd (upd (I 129) 1 (nI ((nx + 1) % 17))) 2 (nI (min (mn0 + 1) 16)))) J R Z) := by
  have e2 : mn (nI (mn0 + 1)) (nI 16) = nI (min (mn0 + 1) 16) := by
    unfold mn
    by_cases h : 16 < mn0 + 1
    · rw [if_pos (nI_lt h (by omega)), Nat.min_eq_right (by omega)]
    · rw [if_neg (nI_nlt (by omega) (by omega)), Nat.min_eq_left (by omega)]
  simp (discharger := omega) only [↓w12_0, ↓w12_1, ↓w12_2, ↓w12_5, ↓w12_6, ↓w12_7, ↓w12_9, ↓w12_10, ↓w12_13, ↓w12_14, ↓w12_15, ↓w12_18, ↓w12_19, ↓w12_20, ↓w12_22, ↓w12_25, ↓w12_28, rc129, g129_0, g129_1, p129_1, g129_2, p129_2, hn, hm, pk_rem, st_eq, st_st, upd_ne, e2, mul8, mul8', mul4, mul4', nI_add, inT, nclN, ltT, ltF, leT, leF, eqT, eqF, nzF, m1F, m1T, shr, shg, bI0, bI1, bo_bI, bo_1, bo_0, eq10, eq00, frT1, frT2, frT3, fit0, fit1, fit2, fit3, true_and, and_true, ↓reduceIte, Nat.reduceAdd, Nat.reduceMul, and_self, not_false_eq_true, not_true_eq_false, Nat.zero_add, Nat.add_zero]
theorem k_goBack (hs : isS s) (hs2 : s < 120 ∨ 335 ≤ s) (hn : I 129 1 = nI nx) (h17 : nx < 17) (hm : I 129 2 = nI mn0) (h16 : mn0 ≤ 16) (hcs : cS (vw I s)) (hct : cS (vw I (131 + 12 * ((nx + 16) % 17)))) : Wp L xs (d+2) 13 0 [some (.ref (129)), some (.ref (s))] [] (mk I J R Z) P = if mn0 = 0 then P (some (.int (nI 0))) (mk I J R Z) else P (some (.int (nI 1))) (mk (putS (st I 129 (upd (upd (I 129) 1 (nI ((nx + 16) % 17))) 2 (nI (mn0 - 1)))) s (vw I (131 + 12 * ((nx + 16) % 17)))) J R Z) := by
  have hs1 := hs.1
  have hq : (nx + 16) % 17 < 17 := Nat.mod_lt _ (by decide)
  by_cases h0 : mn0 = 0
  · subst h0
    simp (discharger := omega) only [↓w13_0, ↓w13_1, ↓w13_4, ↓w13_7, ↓w13_8, ↓w13_9, ↓w13_10, ↓w13_11, ↓w13_14, ↓w13_16, ↓w13_17, ↓w13_18, ↓w13_19, ↓w13_21, ↓w13_22, ↓w13_25, ↓w13_26, ↓w13_27, ↓w13_30, ↓w13_31, ↓w13_32, ↓w13_35, ↓w13_36, ↓w13_37, ↓w13_40, ↓w13_41, ↓w13_44, ↓w13_45, ↓w13_48, ↓w13_49, rc129, g129_0, g129_1, p129_1, g129_2, p129_2, hm, mul8, mul8', mul4, mul4', nI_add, inT, nclN, ltT, ltF, leT, leF, eqT, eqF, nzF, m1F, m1T, shr, shg, bI0, bI1, bo_bI, bo_1, bo_0, eq10, eq00, frT1, frT2, frT3, fit0, fit1, fit2, fit3, true_and, and_true, ↓reduceIte, Nat.reduceAdd, Nat.reduceMul, and_self, not_false_eq_true, not_true_eq_false, Nat.zero_add, Nat.add_zero]
  · have e1 : nI (nx + 17) - nI 1 = nI (nx + 16) := pk_sub (by omega)
    have e2 : nI mn0 - nI 1 = nI (mn0 - 1) := pk_sub (by omega)
    have hc := fun P => k_copyFrom (L := L) (xs := xs) (d := d) (I := st I 129 (upd (upd (I 129) 1 (nI ((nx + 16) % 17))) 2 (nI (mn0 - 1)))) (J := J) (R := R) (Z := Z) (P := P) (isS_sl _ hq) hs (by omega) (by
        intro j k hj hk
        show st I 129 _ (131 + 12 * ((nx + 16) % 17) + j) k = _
        rw [st_ne (by omega)]; exact hct j k hj hk) (by
        intro j k hj hk
        show st I 129 _ (s + j) k = _
        rw [st_ne (by omega)]; exact hcs j k hj hk)
    rw [if_neg h0]
    simp (discharger := omega) only [↓w13_0, ↓w13_1, ↓w13_4, ↓w13_7, ↓w13_8, ↓w13_9, ↓w13_10, ↓w13_11, ↓w13_14, ↓w13_16, ↓w13_17, ↓w13_18, ↓w13_19, ↓w13_21, ↓w13_22, ↓w13_25, ↓w13_26, ↓w13_27, ↓w13_30, ↓w13_31, ↓w13_32, ↓w13_35, ↓w13_36, ↓w13_37, ↓w13_40, ↓w13_41, ↓w13_44, ↓w13_45, ↓w13_48, ↓w13_49, rc129, g129_0, g129_1, p129_1, g129_2, p129_2, hn, hm, e1, e2, pk_rem, st_eq, st_st, upd_ne, upd_eq, gr130, rcS hs, ↓hc, ↓kc_i, ↓kc_l, ↓kc_r, ↓kc_n, mul8, mul8', mul4, mul4', nI_add, inT, nclN, ltT, ltF, leT, leF, eqT, eqF, nzF, m1F, m1T, shr, shg, bI0, bI1, bo_bI, bo_1, bo_0, eq10, eq00, frT1, frT2, frT3, fit0, fit1, fit2, fit3, true_and, and_true, ↓reduceIte, Nat.reduceAdd, Nat.reduceMul, and_self, not_false_eq_true, not_true_eq_false, Nat.zero_add, Nat.add_zero]
    refine congrArg (fun q => P (some (.int (nI 1))) (mk q J R Z)) (ps_cg fun j hj => ?_)
    exact st_ne (by omega)
end K10
