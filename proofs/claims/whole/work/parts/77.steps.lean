section K5
variable {L : Nat} {xs : Nat → Int32} {d : Nat} {P : Option Value → Hp → Prop} {I : Mi} {J : Mj} {R : Mr} {Z : Mz} {s r c l N M : Nat} {x y : Int32}
theorem not_lt32 {a b : Int32} : (¬ a < b) = (b ≤ a) := propext Int32.not_lt
theorem k_wouldFindOther {q : Nat} (hs : isS s) (hc : c < 8) (hM : I 76 2 = nI M) (h8 : M ≤ 8) (hN : I 76 0 = nI N) (h5 : N ≤ 5) (hl : I 80 c = nI l) (hl5 : l < 5) (hq : q < 40) :
    Wp L xs (d+4) 64 0 [some (.ref (128)), some (.ref (s)), some (.int (x)), some (.int (nI c)), some (.int (nI q))] [] (mk I J R Z) P = (fun z : Nat × Int32 × Int32 => P (some (.int (bI (!(decide (z.2.1 = I (s + 3) q) && decide (z.2.2 = I (s + 4) q)))))) (mk (fsd I z.2.1 z.2.2) J R Z)) (fnd N M (I (s + 1)) (I (s + 2)) (I (s + 3)) (I (s + 4)) (I 81 c) (I s 1) l x c) := by
  have hs1 := hs.1
  simp (discharger := omega) only [↓w64_0, ↓w64_1, ↓w64_2, ↓w64_3, ↓w64_4, ↓w64_7, ↓w64_8, ↓w64_9, ↓w64_12, ↓w64_13, ↓w64_16, ↓w64_18, ↓w64_19, ↓w64_22, ↓w64_23, ↓w64_26, ↓w64_27, ↓w64_30, ↓w64_32, ↓w64_33, ↓w64_36, ↓w64_37, ↓w64_40, ↓w64_41, ↓k_find hs hc hM h8 hN h5 hl hl5, ↓kc_i, ↓kc_l, ↓kc_r, ↓kc_n, gS0 hs, gS1 hs, gS2 hs, gS3 hs, gS4 hs, gS5 hs, gS6 hs, gS7 hs, gS8 hs, gS9 hs, gS10 hs, gS11 hs, gS12 hs, giS1 hs, giS2 hs, giS3 hs, giS4 hs, giS5 hs, giS6 hs, giS7 hs, giS8 hs, giS9 hs, giS10 hs, giS11 hs, siS1 hs, siS2 hs, siS3 hs, siS4 hs, siS5 hs, siS6 hs, siS7 hs, siS8 hs, siS9 hs, siS10 hs, siS11 hs, pS0 hs, pS1 hs, rcS hs, rc128, g128_0, g128_1, g128_2, p128_2, g128_3, p128_3, mul8, mul8', mul4, mul4', nI_add, inT, nclN, ltT, ltF, leT, leF, eqT, eqF, nzF, m1F, m1T, shr, shg, bI0, bI1, bo_bI, bo_1, bo_0, eq10, eq00, frT1, frT2, frT3, fit0, fit1, fit2, fit3, true_and, and_true, ↓reduceIte, Nat.reduceAdd, Nat.reduceMul, and_self, not_false_eq_true, not_true_eq_false, Nat.zero_add, Nat.add_zero]
  generalize fnd N M (I (s + 1)) (I (s + 2)) (I (s + 3)) (I (s + 4)) (I 81 c) (I s 1) l x c = z
  have r2 : fsd I z.2.1 z.2.2 128 2 = z.2.1 := by unfold fsd; rw [st_eq]; unfold upd; simp
  have r3 : fsd I z.2.1 z.2.2 128 3 = z.2.2 := by unfold fsd; rw [st_eq]; unfold upd; simp
  have r4 : fsd I z.2.1 z.2.2 (s + 3) = I (s + 3) := by unfold fsd; rw [st_ne (by omega)]
  have r5 : fsd I z.2.1 z.2.2 (s + 4) = I (s + 4) := by unfold fsd; rw [st_ne (by omega)]
  rw [r2, r3, r4, r5]
  by_cases h1 : z.2.1 = I (s + 3) q <;> by_cases h2 : z.2.2 = I (s + 4) q <;> simp [h1, h2, bI, bo_1, bo_0]
def askd (up : Int32) (f1 f2 : Nat → Int32) (l c : Nat) : Bool := tb up l && (decide (f1 (8 * l + c) = nI 1) && decide (f2 (8 * l + c) = nI 0))
def unt (f1 f2 : Nat → Int32) (q : Nat) : Bool := decide (f1 q = nI 0) && decide (f2 q = nI 0)
theorem k_canDecide (hs : isS s) (hc : c < 8) (hN : I 76 0 = nI N) (h5 : N ≤ 5) (hl : I 80 c = nI l) (hl5 : l < 5) (ha : sm (I (s + 10) c)) :
    Wp L xs (d+2) 60 0 [some (.ref (128)), some (.ref (s)), some (.int (nI c))] [] (mk I J R Z) P = P (some (.int (bI (askd (I s 0) (I (s + 1)) (I (s + 2)) l c && decide (mst N ≤ pcn (I (s + 10) c)))))) (mk I J R Z) := by
  have := pcn_le (x := I (s + 10) c)
  have : mst N ≤ 5 := by unfold mst; omega
  simp (discharger := omega) only [↓w60_0, ↓w60_1, ↓w60_2, ↓w60_3, ↓w60_6, ↓w60_9, ↓w60_10, ↓w60_13, ↓w60_14, ↓w60_15, ↓w60_18, ↓w60_19, ↓w60_22, ↓w60_25, ↓w60_28, ↓w60_29, ↓w60_32, ↓w60_33, ↓k_isAskedAtLeader hs hc hl hl5, ↓k_bitCount ha, ↓k_most hN h5, ↓kc_i, ↓kc_l, ↓kc_r, ↓kc_n, gS0 hs, gS1 hs, gS2 hs, gS3 hs, gS4 hs, gS5 hs, gS6 hs, gS7 hs, gS8 hs, gS9 hs, gS10 hs, gS11 hs, gS12 hs, giS1 hs, giS2 hs, giS3 hs, giS4 hs, giS5 hs, giS6 hs, giS7 hs, giS8 hs, giS9 hs, giS10 hs, giS11 hs, siS1 hs, siS2 hs, siS3 hs, siS4 hs, siS5 hs, siS6 hs, siS7 hs, siS8 hs, siS9 hs, siS10 hs, siS11 hs, pS0 hs, pS1 hs, rcS hs, rc128, g128_0, g128_1, g128_2, p128_2, g128_3, p128_3, rc76, g76_0, p76_0, g76_1, p76_1, g76_2, p76_2, g76_3, g76_4, g76_5, g76_6, g76_7, g76_8, mul8, mul8', mul4, mul4', nI_add, inT, nclN, ltT, ltF, leT, leF, eqT, eqF, nzF, m1F, m1T, shr, shg, bI0, bI1, bo_bI, bo_1, bo_0, eq10, eq00, frT1, frT2, frT3, fit0, fit1, fit2, fit3, true_and, and_true, ↓reduceIte, Nat.reduceAdd, Nat.reduceMul, and_self, not_false_eq_true, not_true_eq_false, Nat.zero_add, Nat.add_zero]
  change (if askd (I s 0) (I (s + 1)) (I (s + 2)) l c = false then _ else _) = _
  cases askd (I s 0) (I (s + 1)) (I (s + 2)) l c
  · simp [bI, bo_0]
  · by_cases h : mst N ≤ pcn (I (s + 10) c)
    · rw [if_neg (by simp), if_neg (nI_nlt h (by omega))]; simp [h, bI, bo_1]
    · rw [if_neg (by simp), if_pos (nI_lt (by omega) (by omega))]; simp [h, bI, bo_0]
def usq (f3 : Nat → Int32) (c : Nat) (m : Int32) : Int32 := mxs 5 (tb m) fun r => f3 (8 * r + c)
def udp (f4 : Nat → Int32) (c : Nat) (m : Int32) : Int32 := ors 5 (tb m) fun r => f4 (8 * r + c)
def atOnce (N : Nat) (f3 f4 : Nat → Int32) (an : Int32) (l c : Nat) : Bool := decide (fst5 N ≤ pcn an) && (decide (usq f3 c an = f3 (8 * l + c)) && decide (udp f4 c an = f4 (8 * l + c)))
theorem fst5_le : fst5 N ≤ 4 := by unfold fst5; split <;> decide
theorem k_isDecidedAtOnce (hs : isS s) (hc : c < 8) (hN : I 76 0 = nI N) (h5 : N ≤ 5) (hl : I 80 c = nI l) (hl5 : l < 5) (ha : sm (I (s + 10) c)) :
    Wp L xs (d+2) 61 0 [some (.ref (128)), some (.ref (s)), some (.int (nI c)), none, none] [] (mk I J R Z) P = P (some (.int (bI (atOnce N (I (s + 3)) (I (s + 4)) (I (s + 10) c) l c)))) (mk I J R Z) := by
  have := pcn_le (x := I (s + 10) c)
  have := fst5_le (N := N)
  simp (discharger := omega) only [↓w61_0, ↓w61_1, ↓w61_4, ↓w61_7, ↓w61_8, ↓w61_9, ↓w61_10, ↓w61_13, ↓w61_14, ↓w61_15, ↓w61_18, ↓w61_19, ↓w61_20, ↓w61_22, ↓w61_24, ↓w61_27, ↓w61_28, ↓w61_31, ↓w61_34, ↓w61_37, ↓w61_38, ↓w61_39, ↓w61_41, ↓w61_44, ↓w61_45, ↓w61_48, ↓w61_49, ↓w61_50, ↓w61_53, ↓w61_54, ↓w61_55, ↓w61_57, ↓w61_60, ↓w61_61, ↓w61_64, ↓w61_65, ↓w61_66, ↓w61_69, ↓w61_70, ↓w61_73, ↓w61_74, ↓k_cellOf, ↓k_greatestSeq hs hc, ↓k_allDeps hs hc, ↓k_bitCount ha, ↓k_fast hN h5, ↓kc_i, ↓kc_l, ↓kc_r, ↓kc_n, gS0 hs, gS1 hs, gS2 hs, gS3 hs, gS4 hs, gS5 hs, gS6 hs, gS7 hs, gS8 hs, gS9 hs, gS10 hs, gS11 hs, gS12 hs, giS1 hs, giS2 hs, giS3 hs, giS4 hs, giS5 hs, giS6 hs, giS7 hs, giS8 hs, giS9 hs, giS10 hs, giS11 hs, siS1 hs, siS2 hs, siS3 hs, siS4 hs, siS5 hs, siS6 hs, siS7 hs, siS8 hs, siS9 hs, siS10 hs, siS11 hs, pS0 hs, pS1 hs, rcS hs, rc128, g128_0, g128_1, g128_2, p128_2, g128_3, p128_3, rc76, g76_0, p76_0, g76_1, p76_1, g76_2, p76_2, g76_3, g76_4, g76_5, g76_6, g76_7, g76_8, gi80, si80, hl, mul8, mul8', mul4, mul4', nI_add, inT, nclN, ltT, ltF, leT, leF, eqT, eqF, nzF, m1F, m1T, shr, shg, bI0, bI1, bo_bI, bo_1, bo_0, eq10, eq00, frT1, frT2, frT3, fit0, fit1, fit2, fit3, true_and, and_true, ↓reduceIte, Nat.reduceAdd, Nat.reduceMul, and_self, not_false_eq_true, not_true_eq_false, Nat.zero_add, Nat.add_zero]
  unfold atOnce usq udp
  by_cases h : fst5 N ≤ pcn (I (s + 10) c)
  · rw [if_neg (nI_nlt h (by omega))]
    by_cases h1 : (mxs 5 (tb (I (s + 10) c)) fun r => I (s + 3) (8 * r + c)) = I (s + 3) (8 * l + c) <;> by_cases h2 : (ors 5 (tb (I (s + 10) c)) fun r => I (s + 4) (8 * r + c)) = I (s + 4) (8 * l + c) <;> simp [h, h1, h2, bI, bo_1, bo_0]
  · rw [if_pos (nI_lt (by omega) (by omega))]; simp [h, bI, bo_0]
def canRec (N : Nat) (up : Int32) (f1 : Nat → Int32) (r c : Nat) : Bool := tb up r && (decide (f1 (8 * r + c) < nI 3) && decide (mst N ≤ pcn up))
theorem k_canRecover (hs : isS s) (hc : c < 8) (hr : r < 5) (hN : I 76 0 = nI N) (h5 : N ≤ 5) (ha : sm (I s 0)) :
    Wp L xs (d+1) 62 0 [some (.ref (128)), some (.ref (s)), some (.int (nI c)), some (.int (nI r))] [] (mk I J R Z) P = P (some (.int (bI (canRec N (I s 0) (I (s + 1)) r c)))) (mk I J R Z) := by
  have := pcn_le (x := I s 0)
  have : mst N ≤ 5 := by unfold mst; omega
  simp (discharger := omega) only [↓w62_0, ↓w62_1, ↓w62_2, ↓w62_5, ↓w62_8, ↓w62_9, ↓w62_12, ↓w62_13, ↓w62_14, ↓w62_17, ↓w62_18, ↓w62_19, ↓w62_22, ↓w62_23, ↓w62_26, ↓w62_29, ↓w62_30, ↓w62_33, ↓w62_36, ↓w62_39, ↓w62_40, ↓w62_43, ↓w62_44, ↓k_isUp hs, ↓k_cellOf, ↓k_bitCount ha, ↓k_most hN h5, ↓kc_i, ↓kc_l, ↓kc_r, ↓kc_n, gS0 hs, gS1 hs, gS2 hs, gS3 hs, gS4 hs, gS5 hs, gS6 hs, gS7 hs, gS8 hs, gS9 hs, gS10 hs, gS11 hs, gS12 hs, giS1 hs, giS2 hs, giS3 hs, giS4 hs, giS5 hs, giS6 hs, giS7 hs, giS8 hs, giS9 hs, giS10 hs, giS11 hs, siS1 hs, siS2 hs, siS3 hs, siS4 hs, siS5 hs, siS6 hs, siS7 hs, siS8 hs, siS9 hs, siS10 hs, siS11 hs, pS0 hs, pS1 hs, rcS hs, rc128, g128_0, g128_1, g128_2, p128_2, g128_3, p128_3, rc76, g76_0, p76_0, g76_1, p76_1, g76_2, p76_2, g76_3, g76_4, g76_5, g76_6, g76_7, g76_8, mul8, mul8', mul4, mul4', nI_add, inT, nclN, ltT, ltF, leT, leF, eqT, eqF, nzF, m1F, m1T, shr, shg, bI0, bI1, bo_bI, bo_1, bo_0, eq10, eq00, frT1, frT2, frT3, fit0, fit1, fit2, fit3, true_and, and_true, ↓reduceIte, Nat.reduceAdd, Nat.reduceMul, and_self, not_false_eq_true, not_true_eq_false, Nat.zero_add, Nat.add_zero]
  unfold canRec
  cases tb (I s 0) r
  · simp [bI, bo_0]
  · by_cases h1 : I (s + 1) (8 * r + c) < nI 3
    · by_cases h : mst N ≤ pcn (I s 0)
      · rw [if_neg (by simp), if_neg (Int32.not_le.mpr h1), if_neg (nI_nlt h (by omega))]; simp [h, h1, bI, bo_1]
      · rw [if_neg (by simp), if_neg (Int32.not_le.mpr h1), if_pos (nI_lt (by omega) (by omega))]; simp [h, h1, bI, bo_0]
    · rw [if_neg (by simp), if_pos (Int32.not_lt.mp h1)]; simp [h1, bI, bo_0]
/-- a place of a State set -/
def ups (I : Mi) (s j k : Nat) (x : Int32) : Mi := st I (s + j) (upd (I (s + j)) k x)
theorem k_doPropose (hs : isS s) (hc : c < 8) (hM : I 76 2 = nI M) (h8 : M ≤ 8) (hl : I 80 c = nI l) (hl5 : l < 5) :
    Wp L xs (d+3) 51 0 [some (.ref (128)), some (.ref (s)), some (.int (nI c)), none, none, none] [] (mk I J R Z) P = if (tb (I s 0) l && unt (I (s + 1)) (I (s + 2)) (8 * l + c)) = true then (fun m => P (some (.int (bhd (I (s + 3)) M l m))) (mk (st (st (st (st I (s + 1) (upd (I (s + 1)) (8 * l + c) (nI 1))) (s + 3) (upd (I (s + 3)) (8 * l + c) (bhd (I (s + 3)) M l m))) (s + 4) (upd (I (s + 4)) (8 * l + c) m)) (s + 10) (upd (I (s + 10)) c (sg l))) J R Z)) (met (I (s + 1)) (I 81 c) (I s 1) l) else P (some (.int (-1))) (mk I J R Z) := by
  have hs1 := hs.1
  simp (discharger := omega) only [↓w51_0, ↓w51_1, ↓w51_4, ↓w51_7, ↓w51_8, ↓w51_9, ↓w51_10, ↓w51_11, ↓w51_12, ↓w51_15, ↓w51_17, ↓w51_18, ↓w51_19, ↓w51_22, ↓w51_25, ↓w51_26, ↓w51_28, ↓w51_31, ↓w51_34, ↓w51_35, ↓w51_36, ↓w51_37, ↓w51_38, ↓w51_39, ↓w51_40, ↓w51_43, ↓w51_45, ↓w51_46, ↓w51_48, ↓w51_49, ↓w51_50, ↓w51_51, ↓w51_52, ↓w51_54, ↓w51_57, ↓w51_59, ↓w51_62, ↓w51_63, ↓w51_66, ↓w51_67, ↓w51_68, ↓w51_69, ↓w51_70, ↓w51_71, ↓w51_72, ↓w51_75, ↓w51_77, ↓w51_78, ↓k_isUp hs, ↓k_cellOf, ↓k_isUntouched hs, ↓k_meets hs, ↓k_behind hs (M := M) _ hM h8, ↓k_lay hs, ↓kc_i, ↓kc_l, ↓kc_r, ↓kc_n, gS0 hs, gS1 hs, gS2 hs, gS3 hs, gS4 hs, gS5 hs, gS6 hs, gS7 hs, gS8 hs, gS9 hs, gS10 hs, gS11 hs, gS12 hs, giS1 hs, giS2 hs, giS3 hs, giS4 hs, giS5 hs, giS6 hs, giS7 hs, giS8 hs, giS9 hs, giS10 hs, giS11 hs, siS1 hs, siS2 hs, siS3 hs, siS4 hs, siS5 hs, siS6 hs, siS7 hs, siS8 hs, siS9 hs, siS10 hs, siS11 hs, pS0 hs, pS1 hs, rcS hs, rc128, g128_0, g128_1, g128_2, p128_2, g128_3, p128_3, rc76, g76_0, p76_0, g76_1, p76_1, g76_2, p76_2, g76_3, g76_4, g76_5, g76_6, g76_7, g76_8, gi80, si80, hl, mul8, mul8', mul4, mul4', nI_add, inT, nclN, ltT, ltF, leT, leF, eqT, eqF, nzF, m1F, m1T, shr, shg, bI0, bI1, bo_bI, bo_1, bo_0, eq10, eq00, frT1, frT2, frT3, fit0, fit1, fit2, fit3, true_and, and_true, ↓reduceIte, Nat.reduceAdd, Nat.reduceMul, and_self, not_false_eq_true, not_true_eq_false, Nat.zero_add, Nat.add_zero, st_ne, st_eq]
  change (if _ then _ else if unt (I (s + 1)) (I (s + 2)) (8 * l + c) = false then _ else _) = _
  cases tb (I s 0) l
  · simp
  · cases unt (I (s + 1)) (I (s + 2)) (8 * l + c)
    · simp
    · simp [upd_eq]
theorem k_doAsk (hs : isS s) (hc : c < 8) (hr : r < 5) (hM : I 76 2 = nI M) (h8 : M ≤ 8) (hl : I 80 c = nI l) (hl5 : l < 5) :
    Wp L xs (d+3) 52 0 [some (.ref (128)), some (.ref (s)), some (.int (nI c)), some (.int (nI r)), none, none, none, none, none] [] (mk I J R Z) P = if (askd (I s 0) (I (s + 1)) (I (s + 2)) l c && (decide (r ≠ l) && (tb (I s 0) r && unt (I (s + 1)) (I (s + 2)) (8 * r + c)))) = true then (fun (sq dp : Int32) => P (some (.int (bI (decide (I (s + 3) (8 * l + c) = sq) && decide (I (s + 4) (8 * l + c) = dp))))) (mk (st (st (st (st I (s + 1) (upd (I (s + 1)) (8 * r + c) (nI 1))) (s + 3) (upd (I (s + 3)) (8 * r + c) sq)) (s + 4) (upd (I (s + 4)) (8 * r + c) dp)) (s + 10) (upd (I (s + 10)) c (I (s + 10) c ||| sg r))) J R Z)) (mx (I (s + 3) (8 * l + c)) (bhd (I (s + 3)) M r (met (I (s + 1)) (I 81 c) (I s 1) r))) (I (s + 4) (8 * l + c) ||| met (I (s + 1)) (I 81 c) (I s 1) r) else P (some (.int (-1))) (mk I J R Z) := by
  have hs1 := hs.1
  simp (discharger := omega) only [↓w52_0, ↓w52_1, ↓w52_4, ↓w52_7, ↓w52_8, ↓w52_9, ↓w52_11, ↓w52_12, ↓w52_13, ↓w52_16, ↓w52_18, ↓w52_19, ↓w52_20, ↓w52_21, ↓w52_24, ↓w52_27, ↓w52_28, ↓w52_30, ↓w52_33, ↓w52_34, ↓w52_35, ↓w52_38, ↓w52_41, ↓w52_42, ↓w52_44, ↓w52_47, ↓w52_50, ↓w52_51, ↓w52_52, ↓w52_54, ↓w52_55, ↓w52_58, ↓w52_60, ↓w52_61, ↓w52_62, ↓w52_63, ↓w52_64, ↓w52_67, ↓w52_69, ↓w52_70, ↓w52_73, ↓w52_75, ↓w52_76, ↓w52_77, ↓w52_78, ↓w52_79, ↓w52_81, ↓w52_84, ↓w52_87, ↓w52_89, ↓w52_90, ↓w52_92, ↓w52_93, ↓w52_95, ↓w52_96, ↓w52_99, ↓w52_101, ↓w52_102, ↓w52_104, ↓w52_105, ↓w52_108, ↓w52_109, ↓w52_112, ↓w52_113, ↓w52_114, ↓w52_115, ↓w52_116, ↓w52_117, ↓w52_118, ↓w52_119, ↓w52_120, ↓w52_121, ↓w52_122, ↓w52_124, ↓w52_125, ↓w52_128, ↓w52_131, ↓w52_132, ↓w52_135, ↓w52_136, ↓k_isUp hs, ↓k_cellOf, ↓k_isUntouched hs, ↓k_isAskedAtLeader hs hc hl hl5, ↓k_meets hs, ↓k_behind hs (M := M) _ hM h8, ↓k_lay hs, ↓k_isSame hs, ↓kc_i, ↓kc_l, ↓kc_r, ↓kc_n, gS0 hs, gS1 hs, gS2 hs, gS3 hs, gS4 hs, gS5 hs, gS6 hs, gS7 hs, gS8 hs, gS9 hs, gS10 hs, gS11 hs, gS12 hs, giS1 hs, giS2 hs, giS3 hs, giS4 hs, giS5 hs, giS6 hs, giS7 hs, giS8 hs, giS9 hs, giS10 hs, giS11 hs, siS1 hs, siS2 hs, siS3 hs, siS4 hs, siS5 hs, siS6 hs, siS7 hs, siS8 hs, siS9 hs, siS10 hs, siS11 hs, pS0 hs, pS1 hs, rcS hs, rc128, g128_0, g128_1, g128_2, p128_2, g128_3, p128_3, rc76, g76_0, p76_0, g76_1, p76_1, g76_2, p76_2, g76_3, g76_4, g76_5, g76_6, g76_7, g76_8, gi80, si80, hl, mul8, mul8', mul4, mul4', nI_add, inT, nclN, ltT, ltF, leT, leF, eqT, eqF, nzF, m1F, m1T, shr, shg, bI0, bI1, bo_bI, bo_1, bo_0, eq10, eq00, frT1, frT2, frT3, fit0, fit1, fit2, fit3, true_and, and_true, ↓reduceIte, Nat.reduceAdd, Nat.reduceMul, and_self, not_false_eq_true, not_true_eq_false, Nat.zero_add, Nat.add_zero, st_ne, st_eq]
  change (if askd (I s 0) (I (s + 1)) (I (s + 2)) l c = false then _ else _) = _
  cases askd (I s 0) (I (s + 1)) (I (s + 2)) l c
  · simp
  · by_cases hrl : r = l
    · subst hrl; simp
    · rw [if_neg (by simp), if_neg (fun z => hrl ((nI_eq (by omega) (by omega)).mp z))]
      change (if _ then _ else if unt (I (s + 1)) (I (s + 2)) (8 * r + c) = false then _ else _) = _
      cases tb (I s 0) r
      · simp
      · cases unt (I (s + 1)) (I (s + 2)) (8 * r + c)
        · simp
        · unfold sameAt
          simp (discharger := omega) only [upd_eq, upd_ne]
          simp [hrl]
          generalize mx (I (s + 3) (8 * l + c)) (bhd (I (s + 3)) M r (met (I (s + 1)) (I 81 c) (I s 1) r)) = sq
          generalize I (s + 4) (8 * l + c) ||| met (I (s + 1)) (I 81 c) (I s 1) r = dp
          by_cases h1 : I (s + 3) (8 * l + c) = sq <;> by_cases h2 : I (s + 4) (8 * l + c) = dp <;> simp [h1, h2, bI]
theorem k_doDecide (hs : isS s) (hc : c < 8) (hN : I 76 0 = nI N) (h5 : N ≤ 5) (hl : I 80 c = nI l) (hl5 : l < 5) (ha : sm (I (s + 10) c)) :
    Wp L xs (d+3) 53 0 [some (.ref (128)), some (.ref (s)), some (.int (nI c)), none, none, none] [] (mk I J R Z) P = if (askd (I s 0) (I (s + 1)) (I (s + 2)) l c && decide (mst N ≤ pcn (I (s + 10) c))) = true then (if atOnce N (I (s + 3)) (I (s + 4)) (I (s + 10) c) l c = true then P (some (.int (nI 1))) (mk (st I (s + 1) (upd (I (s + 1)) (8 * l + c) (nI 3))) J R Z) else P (some (.int (nI 0))) (mk (st (st (st (st I (s + 1) (upd (I (s + 1)) (8 * l + c) (nI 2))) (s + 3) (upd (I (s + 3)) (8 * l + c) (usq (I (s + 3)) c (I (s + 10) c)))) (s + 4) (upd (I (s + 4)) (8 * l + c) (udp (I (s + 4)) c (I (s + 10) c)))) (s + 11) (upd (I (s + 11)) c (sg l))) J R Z)) else P (some (.int (-1))) (mk I J R Z) := by
  have hs1 := hs.1
  simp (discharger := omega) only [↓w53_0, ↓w53_1, ↓w53_2, ↓w53_3, ↓w53_6, ↓w53_9, ↓w53_10, ↓w53_11, ↓w53_12, ↓w53_15, ↓w53_18, ↓w53_19, ↓w53_20, ↓w53_21, ↓w53_22, ↓w53_23, ↓w53_26, ↓w53_28, ↓w53_29, ↓w53_30, ↓w53_31, ↓w53_34, ↓w53_37, ↓w53_38, ↓w53_41, ↓w53_43, ↓w53_44, ↓w53_45, ↓w53_46, ↓w53_47, ↓w53_48, ↓w53_51, ↓w53_52, ↓w53_53, ↓w53_55, ↓w53_56, ↓w53_58, ↓w53_59, ↓w53_60, ↓w53_61, ↓w53_63, ↓w53_66, ↓w53_67, ↓w53_68, ↓w53_70, ↓w53_73, ↓w53_76, ↓w53_77, ↓w53_80, ↓w53_81, ↓w53_82, ↓w53_83, ↓w53_84, ↓w53_85, ↓w53_86, ↓k_canDecide hs hc hN h5 hl hl5 ha, ↓k_isDecidedAtOnce hs hc hN h5 hl hl5 ha, ↓k_cellOf, ↓k_greatestSeq hs hc, ↓k_allDeps hs hc, ↓k_lay hs, ↓kc_i, ↓kc_l, ↓kc_r, ↓kc_n, gS0 hs, gS1 hs, gS2 hs, gS3 hs, gS4 hs, gS5 hs, gS6 hs, gS7 hs, gS8 hs, gS9 hs, gS10 hs, gS11 hs, gS12 hs, giS1 hs, giS2 hs, giS3 hs, giS4 hs, giS5 hs, giS6 hs, giS7 hs, giS8 hs, giS9 hs, giS10 hs, giS11 hs, siS1 hs, siS2 hs, siS3 hs, siS4 hs, siS5 hs, siS6 hs, siS7 hs, siS8 hs, siS9 hs, siS10 hs, siS11 hs, pS0 hs, pS1 hs, rcS hs, rc128, g128_0, g128_1, g128_2, p128_2, g128_3, p128_3, rc76, g76_0, p76_0, g76_1, p76_1, g76_2, p76_2, g76_3, g76_4, g76_5, g76_6, g76_7, g76_8, gi80, si80, hl, mul8, mul8', mul4, mul4', nI_add, inT, nclN, ltT, ltF, leT, leF, eqT, eqF, nzF, m1F, m1T, shr, shg, bI0, bI1, bo_bI, bo_1, bo_0, eq10, eq00, frT1, frT2, frT3, fit0, fit1, fit2, fit3, true_and, and_true, ↓reduceIte, Nat.reduceAdd, Nat.reduceMul, and_self, not_false_eq_true, not_true_eq_false, Nat.zero_add, Nat.add_zero, st_ne, st_eq]
  cases (askd (I s 0) (I (s + 1)) (I (s + 2)) l c && decide (mst N ≤ pcn (I (s + 10) c)))
  · simp
  · cases atOnce N (I (s + 3)) (I (s + 4)) (I (s + 10) c) l c
    · simp [usq, udp]
    · simp
def accd (up : Int32) (f1 : Nat → Int32) (h c : Nat) : Bool := tb up h && decide (f1 (8 * h + c) = nI 2)
theorem k_doAccept {h : Nat} (hs : isS s) (hc : c < 8) (hr : r < 5) (hh : I (s + 9) c = nI h) (hh5 : h < 5) (ha : sm (I (s + 11) c)) :
    Wp L xs (d+2) 54 0 [some (.ref (128)), some (.ref (s)), some (.int (nI c)), some (.int (nI r)), none, none, none] [] (mk I J R Z) P = if (accd (I s 0) (I (s + 1)) h c && (tb (I s 0) r && (decide (I (s + 1) (8 * r + c) < nI 3) && (decide (I (s + 2) (8 * r + c) ≤ I (s + 2) (8 * h + c)) && !tb (I (s + 11) c) r)))) = true then P (some (.int (nI (pcn (I (s + 11) c ||| sg r))))) (mk (st (st (st (st (st I (s + 1) (upd (I (s + 1)) (8 * r + c) (nI 2))) (s + 3) (upd (I (s + 3)) (8 * r + c) (I (s + 3) (8 * h + c)))) (s + 4) (upd (I (s + 4)) (8 * r + c) (I (s + 4) (8 * h + c)))) (s + 2) (upd (I (s + 2)) (8 * r + c) (I (s + 2) (8 * h + c)))) (s + 11) (upd (I (s + 11)) c (I (s + 11) c ||| sg r))) J R Z) else P (some (.int (-1))) (mk I J R Z) := by
  have hs1 := hs.1
  simp (discharger := omega) only [↓w54_0, ↓w54_1, ↓w54_4, ↓w54_5, ↓w54_6, ↓w54_8, ↓w54_10, ↓w54_11, ↓w54_14, ↓w54_16, ↓w54_17, ↓w54_18, ↓w54_21, ↓w54_23, ↓w54_24, ↓w54_25, ↓w54_28, ↓w54_31, ↓w54_32, ↓w54_33, ↓w54_36, ↓w54_39, ↓w54_40, ↓w54_43, ↓w54_45, ↓w54_46, ↓w54_47, ↓w54_50, ↓w54_51, ↓w54_54, ↓w54_56, ↓w54_57, ↓w54_58, ↓w54_61, ↓w54_63, ↓w54_64, ↓w54_67, ↓w54_68, ↓w54_71, ↓w54_72, ↓w54_73, ↓w54_74, ↓w54_75, ↓w54_76, ↓w54_77, ↓w54_80, ↓w54_81, ↓w54_82, ↓w54_83, ↓w54_85, ↓w54_86, ↓w54_87, ↓w54_90, ↓w54_92, ↓w54_93, ↓w54_94, ↓w54_97, ↓w54_99, ↓w54_100, ↓w54_103, ↓w54_104, ↓w54_107, ↓w54_109, ↓w54_110, ↓w54_113, ↓w54_115, ↓w54_116, ↓w54_117, ↓w54_118, ↓w54_121, ↓w54_122, ↓w54_123, ↓w54_124, ↓w54_125, ↓w54_126, ↓w54_127, ↓w54_128, ↓w54_129, ↓w54_130, ↓w54_133, ↓w54_134, ↓w54_135, ↓w54_138, ↓k_isAcceptedAtHost hs hc hh hh5, ↓k_isUp hs, ↓k_cellOf, ↓k_lay hs, ↓kc_i, ↓kc_l, ↓kc_r, ↓kc_n, gS0 hs, gS1 hs, gS2 hs, gS3 hs, gS4 hs, gS5 hs, gS6 hs, gS7 hs, gS8 hs, gS9 hs, gS10 hs, gS11 hs, gS12 hs, giS1 hs, giS2 hs, giS3 hs, giS4 hs, giS5 hs, giS6 hs, giS7 hs, giS8 hs, giS9 hs, giS10 hs, giS11 hs, siS1 hs, siS2 hs, siS3 hs, siS4 hs, siS5 hs, siS6 hs, siS7 hs, siS8 hs, siS9 hs, siS10 hs, siS11 hs, pS0 hs, pS1 hs, rcS hs, rc128, g128_0, g128_1, g128_2, p128_2, g128_3, p128_3, rc76, g76_0, p76_0, g76_1, p76_1, g76_2, p76_2, g76_3, g76_4, g76_5, g76_6, g76_7, g76_8, gi80, si80, hh, mul8, mul8', mul4, mul4', nI_add, inT, nclN, ltT, ltF, leT, leF, eqT, eqF, nzF, m1F, m1T, shr, shg, bI0, bI1, bo_bI, bo_1, bo_0, eq10, eq00, frT1, frT2, frT3, fit0, fit1, fit2, fit3, true_and, and_true, ↓reduceIte, Nat.reduceAdd, Nat.reduceMul, and_self, not_false_eq_true, not_true_eq_false, Nat.zero_add, Nat.add_zero, st_ne, st_eq, upd_eq, ↓k_bitCount (sm_or ha (sm_sg (show r < 8 by omega)))]
  change (if accd (I s 0) (I (s + 1)) h c = false then _ else _) = _
  cases accd (I s 0) (I (s + 1)) h c
  · simp
  · cases tb (I s 0) r
    · simp
    · by_cases h1 : I (s + 1) (8 * r + c) < nI 3
      · by_cases h2 : I (s + 2) (8 * r + c) ≤ I (s + 2) (8 * h + c)
        · cases tb (I (s + 11) c) r <;> simp [h1, h2, Int32.not_le.mpr h1, Int32.not_lt.mpr h2]
        · simp [h1, h2, Int32.not_le.mpr h1, Int32.not_le.mp h2]
      · simp [h1, Int32.not_lt.mp h1]
theorem k_doSettle {h : Nat} (hs : isS s) (hc : c < 8) (hN : I 76 0 = nI N) (h5 : N ≤ 5) (hh : I (s + 9) c = nI h) (hh5 : h < 5) (ha : sm (I (s + 11) c)) :
    Wp L xs (d+2) 55 0 [some (.ref (128)), some (.ref (s)), some (.int (nI c))] [] (mk I J R Z) P = if (accd (I s 0) (I (s + 1)) h c && decide (mst N ≤ pcn (I (s + 11) c))) = true then P (some (.int (nI 1))) (mk (st I (s + 1) (upd (I (s + 1)) (8 * h + c) (nI 3))) J R Z) else P (some (.int (-1))) (mk I J R Z) := by
  have hs1 := hs.1
  have := pcn_le (x := I (s + 11) c)
  have : mst N ≤ 5 := by unfold mst; omega
  simp (discharger := omega) only [↓w55_0, ↓w55_1, ↓w55_2, ↓w55_5, ↓w55_8, ↓w55_9, ↓w55_12, ↓w55_13, ↓w55_14, ↓w55_17, ↓w55_18, ↓w55_21, ↓w55_24, ↓w55_27, ↓w55_28, ↓w55_29, ↓w55_30, ↓w55_33, ↓w55_34, ↓w55_37, ↓w55_38, ↓w55_39, ↓w55_40, ↓w55_43, ↓w55_44, ↓w55_45, ↓w55_46, ↓k_isAcceptedAtHost hs hc hh hh5, ↓k_most hN h5, ↓k_cellOf, ↓kc_i, ↓kc_l, ↓kc_r, ↓kc_n, gS0 hs, gS1 hs, gS2 hs, gS3 hs, gS4 hs, gS5 hs, gS6 hs, gS7 hs, gS8 hs, gS9 hs, gS10 hs, gS11 hs, gS12 hs, giS1 hs, giS2 hs, giS3 hs, giS4 hs, giS5 hs, giS6 hs, giS7 hs, giS8 hs, giS9 hs, giS10 hs, giS11 hs, siS1 hs, siS2 hs, siS3 hs, siS4 hs, siS5 hs, siS6 hs, siS7 hs, siS8 hs, siS9 hs, siS10 hs, siS11 hs, pS0 hs, pS1 hs, rcS hs, rc128, g128_0, g128_1, g128_2, p128_2, g128_3, p128_3, rc76, g76_0, p76_0, g76_1, p76_1, g76_2, p76_2, g76_3, g76_4, g76_5, g76_6, g76_7, g76_8, hh, mul8, mul8', mul4, mul4', nI_add, inT, nclN, ltT, ltF, leT, leF, eqT, eqF, nzF, m1F, m1T, shr, shg, bI0, bI1, bo_bI, bo_1, bo_0, eq10, eq00, frT1, frT2, frT3, fit0, fit1, fit2, fit3, true_and, and_true, ↓reduceIte, Nat.reduceAdd, Nat.reduceMul, and_self, not_false_eq_true, not_true_eq_false, Nat.zero_add, Nat.add_zero, ↓k_bitCount ha]
  change (if accd (I s 0) (I (s + 1)) h c = false then _ else _) = _
  cases accd (I s 0) (I (s + 1)) h c
  · simp
  · by_cases h2 : mst N ≤ pcn (I (s + 11) c)
    · rw [if_neg (by simp), if_pos (nI_le h2 (by omega))]; simp [h2]
    · rw [if_neg (by simp), if_neg (nI_ge (by omega) (by omega))]; simp [h2]
theorem k_doTell (hs : isS s) (hc : c < 8) (hr : r < 5) :
    Wp L xs (d+2) 56 0 [some (.ref (128)), some (.ref (s)), some (.int (nI c)), some (.int (nI r)), none, none, none] [] (mk I J R Z) P = (match ff 8 (tb (rW (I (s + 1)) c (nI 3) (nI 4) &&& I s 0)) with
      | some t => if (tb (I s 0) r && decide (I (s + 1) (8 * r + c) < nI 3)) = true then P (some (.int (nI 1))) (mk (st (st (st I (s + 1) (upd (I (s + 1)) (8 * r + c) (nI 3))) (s + 3) (upd (I (s + 3)) (8 * r + c) (I (s + 3) (8 * t + c)))) (s + 4) (upd (I (s + 4)) (8 * r + c) (I (s + 4) (8 * t + c)))) J R Z) else P (some (.int (-1))) (mk I J R Z)
      | none => P (some (.int (-1))) (mk I J R Z)) := by
  have hs1 := hs.1
  simp (discharger := omega) only [↓w56_0, ↓w56_1, ↓w56_2, ↓w56_5, ↓w56_7, ↓w56_8, ↓w56_9, ↓w56_10, ↓w56_11, ↓w56_14, ↓w56_15, ↓w56_18, ↓w56_19, ↓w56_22, ↓w56_24, ↓w56_25, ↓w56_26, ↓w56_29, ↓w56_32, ↓w56_33, ↓w56_36, ↓w56_38, ↓w56_39, ↓w56_40, ↓w56_43, ↓w56_45, ↓w56_46, ↓w56_49, ↓w56_50, ↓w56_51, ↓w56_53, ↓w56_54, ↓w56_57, ↓w56_59, ↓w56_60, ↓w56_62, ↓w56_63, ↓w56_64, ↓w56_67, ↓w56_69, ↓w56_70, ↓w56_71, ↓w56_74, ↓w56_76, ↓w56_77, ↓w56_80, ↓w56_81, ↓k_isUp hs, ↓k_cellOf, ↓k_replicasWith' hs hc, ↓k_firstOf (sm_and (sm_bm (show 5 ≤ 8 by decide)) : sm (rW _ _ _ _ &&& _)), ↓kc_i, ↓kc_l, ↓kc_r, ↓kc_n, gS0 hs, gS1 hs, gS2 hs, gS3 hs, gS4 hs, gS5 hs, gS6 hs, gS7 hs, gS8 hs, gS9 hs, gS10 hs, gS11 hs, gS12 hs, giS1 hs, giS2 hs, giS3 hs, giS4 hs, giS5 hs, giS6 hs, giS7 hs, giS8 hs, giS9 hs, giS10 hs, giS11 hs, siS1 hs, siS2 hs, siS3 hs, siS4 hs, siS5 hs, siS6 hs, siS7 hs, siS8 hs, siS9 hs, siS10 hs, siS11 hs, pS0 hs, pS1 hs, rcS hs, rc128, g128_0, g128_1, g128_2, p128_2, g128_3, p128_3, mul8, mul8', mul4, mul4', nI_add, inT, nclN, ltT, ltF, leT, leF, eqT, eqF, nzF, m1F, m1T, shr, shg, bI0, bI1, bo_bI, bo_1, bo_0, eq10, eq00, frT1, frT2, frT3, fit0, fit1, fit2, fit3, true_and, and_true, ↓reduceIte, Nat.reduceAdd, Nat.reduceMul, and_self, not_false_eq_true, not_true_eq_false, Nat.zero_add, Nat.add_zero]
  cases h1 : ff 8 (tb (rW (I (s + 1)) c (nI 3) (nI 4) &&& I s 0)) with
  | none =>
    cases tb (I s 0) r
    · simp
    · by_cases h2 : nI 3 ≤ I (s + 1) (8 * r + c) <;> simp [h2, oN]
  | some t =>
    have ht : t < 5 := by
      have h2 := (ff_some.mp h1).2.1
      rw [tb_and] at h2; unfold rW at h2; rw [tb_bm (by decide)] at h2
      simp at h2; exact h2.1.1
    cases tb (I s 0) r
    · simp
    · by_cases h2 : I (s + 1) (8 * r + c) < nI 3
      · simp (discharger := omega) only [oN, mul8, mul8', mul4, mul4', nI_add, inT, nclN, ltT, ltF, leT, leF, eqT, eqF, nzF, m1F, m1T, shr, shg, bI0, bI1, bo_bI, bo_1, bo_0, eq10, eq00, frT1, frT2, frT3, fit0, fit1, fit2, fit3, true_and, and_true, ↓reduceIte, Nat.reduceAdd, Nat.reduceMul, and_self, not_false_eq_true, not_true_eq_false, Nat.zero_add, Nat.add_zero, ↓w56_0, ↓w56_1, ↓w56_2, ↓w56_5, ↓w56_7, ↓w56_8, ↓w56_9, ↓w56_10, ↓w56_11, ↓w56_14, ↓w56_15, ↓w56_18, ↓w56_19, ↓w56_22, ↓w56_24, ↓w56_25, ↓w56_26, ↓w56_29, ↓w56_32, ↓w56_33, ↓w56_36, ↓w56_38, ↓w56_39, ↓w56_40, ↓w56_43, ↓w56_45, ↓w56_46, ↓w56_49, ↓w56_50, ↓w56_51, ↓w56_53, ↓w56_54, ↓w56_57, ↓w56_59, ↓w56_60, ↓w56_62, ↓w56_63, ↓w56_64, ↓w56_67, ↓w56_69, ↓w56_70, ↓w56_71, ↓w56_74, ↓w56_76, ↓w56_77, ↓w56_80, ↓w56_81, ↓k_cellOf, ↓k_lay hs, ↓kc_i, ↓kc_l, ↓kc_r, ↓kc_n, gS0 hs, gS1 hs, gS2 hs, gS3 hs, gS4 hs, gS5 hs, gS6 hs, gS7 hs, gS8 hs, gS9 hs, gS10 hs, gS11 hs, gS12 hs, giS1 hs, giS2 hs, giS3 hs, giS4 hs, giS5 hs, giS6 hs, giS7 hs, giS8 hs, giS9 hs, giS10 hs, giS11 hs, siS1 hs, siS2 hs, siS3 hs, siS4 hs, siS5 hs, siS6 hs, siS7 hs, siS8 hs, siS9 hs, siS10 hs, siS11 hs, pS0 hs, pS1 hs, rcS hs, h2, Int32.not_le.mpr h2, decide_true, Bool.and_self, Bool.true_eq_false, reduceCtorEq]
      · simp [h2, Int32.not_lt.mp h2]
theorem k_doTurn {b : Bool} (hs : isS s) (hr : r < 5) :
    Wp L xs (d+1) 58 0 [some (.ref (128)), some (.ref (s)), some (.int (nI r)), some (.int (bI b))] [] (mk I J R Z) P = if tb (I s 0) r = b then P (some (.int (nI 1))) (mk (st I s (upd (I s) 0 (I s 0 ^^^ sg r))) J R Z) else P (some (.int (-1))) (mk I J R Z) := by
  simp (discharger := omega) only [↓w58_0, ↓w58_1, ↓w58_2, ↓w58_5, ↓w58_6, ↓w58_9, ↓w58_10, ↓w58_11, ↓w58_12, ↓w58_13, ↓w58_16, ↓w58_17, ↓w58_18, ↓w58_19, ↓w58_20, ↓w58_23, ↓w58_24, ↓k_isUp hs, ↓kc_i, ↓kc_l, ↓kc_r, ↓kc_n, gS0 hs, gS1 hs, gS2 hs, gS3 hs, gS4 hs, gS5 hs, gS6 hs, gS7 hs, gS8 hs, gS9 hs, gS10 hs, gS11 hs, gS12 hs, giS1 hs, giS2 hs, giS3 hs, giS4 hs, giS5 hs, giS6 hs, giS7 hs, giS8 hs, giS9 hs, giS10 hs, giS11 hs, siS1 hs, siS2 hs, siS3 hs, siS4 hs, siS5 hs, siS6 hs, siS7 hs, siS8 hs, siS9 hs, siS10 hs, siS11 hs, pS0 hs, pS1 hs, rcS hs, rc128, g128_0, g128_1, g128_2, p128_2, g128_3, p128_3, mul8, mul8', mul4, mul4', nI_add, inT, nclN, ltT, ltF, leT, leF, eqT, eqF, nzF, m1F, m1T, shr, shg, bI0, bI1, bo_bI, bo_1, bo_0, eq10, eq00, frT1, frT2, frT3, fit0, fit1, fit2, fit3, true_and, and_true, ↓reduceIte, Nat.reduceAdd, Nat.reduceMul, and_self, not_false_eq_true, not_true_eq_false, Nat.zero_add, Nat.add_zero]
  cases tb (I s 0) r <;> cases b <;> simp [bI] <;> intro h <;> exact absurd h (by decide)
end K5
