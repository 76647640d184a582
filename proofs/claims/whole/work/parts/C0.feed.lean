/-! FEED: t = (how many signs, the signs) -/
abbrev Tp : Type := Nat × (Nat → Int32)
def okc (c : Nat) : Bool := decide (c = 10) || (decide (32 ≤ c) && decide (c ≤ 126))
def byt (w : Int64) (k : Nat) : Nat := w.toBitVec.toNat / 2 ^ (56 - 8 * k) % 256
def fd1 (c : Nat) (t : Tp) : Tp := if t.1 < 1000 ∧ okc c = true then (t.1 + 1, upd t.2 t.1 (nI c)) else t
def fd8 (w : Int64) (t : Tp) : Tp := lp (fun k t => fd1 (byt w k) t) 8 t
def shf (k : Nat) : Int32 := if k < 8 then nI (56 - 8 * k) else -8
def tpI (I : Mi) (t : Tp) : Mi := st (st I 65 (upd (I 65) 1 (nI t.1))) 66 t.2
def tpM (I : Mi) (t : Tp) : Mi := st (st I 420 (upd (I 420) 1 (nI t.1))) 421 t.2
section G0
variable {L : Nat} {xs : Nat → Int32} {d : Nat} {P : Option Value → Hp → Prop} {I : Mi} {J : Mj} {R : Mr} {Z : Mz} {c k n i : Nat} {V : Vw} {t : Tp} {a b w e : Int64} {f : Nat → Int32}
theorem byt_lt : byt w k < 256 := Nat.mod_lt _ (by decide)
theorem fd1_y (h : t.1 < 1000) (hc : okc c = true) : fd1 c t = (t.1 + 1, upd t.2 t.1 (nI c)) := if_pos ⟨h, hc⟩
theorem fd1_n (h : ¬ (t.1 < 1000 ∧ okc c = true)) : fd1 c t = t := if_neg h
theorem fd1_le (h : t.1 ≤ 1000) : (fd1 c t).1 ≤ 1000 := by
  unfold fd1; split
  · rename_i q; exact q.1
  · exact h
theorem tpI65 : tpI I t 65 = upd (I 65) 1 (nI t.1) := by unfold tpI; rw [st_ne (by decide), st_eq]
theorem tpI66 : tpI I t 66 = t.2 := by unfold tpI; rw [st_eq]
theorem tpI_w : st (st (tpI I t) 66 f) 65 (upd (upd (I 65) 1 (nI t.1)) 1 (nI n)) = tpI I (n, f) := by
  unfold tpI
  funext q
  by_cases h1 : q = 65
  · subst h1; rw [st_eq, st_ne (by decide), st_eq, upd_upd]
  · rw [st_ne h1]
    by_cases h2 : q = 66
    · subst h2; rw [st_eq, st_eq]
    · rw [st_ne h2, st_ne h2, st_ne h1, st_ne h2, st_ne h1]
theorem tpI_id (h : I 65 1 = nI n) : tpI I (n, I 66) = I := by
  unfold tpI
  dsimp only
  have : upd (I 65) 1 (nI n) = I 65 := by
    funext q; unfold upd; split
    · rename_i z; rw [z, h]
    · rfl
  rw [this, st_id, st_id]
theorem tpM420 : tpM I t 420 = upd (I 420) 1 (nI t.1) := by unfold tpM; rw [st_ne (by decide), st_eq]
theorem tpM421 : tpM I t 421 = t.2 := by unfold tpM; rw [st_eq]
theorem tpM_w : st (st (tpM I t) 421 f) 420 (upd (upd (I 420) 1 (nI t.1)) 1 (nI n)) = tpM I (n, f) := by
  unfold tpM
  funext q
  by_cases h1 : q = 420
  · subst h1; rw [st_eq, st_ne (by decide), st_eq, upd_upd]
  · rw [st_ne h1]
    by_cases h2 : q = 421
    · subst h2; rw [st_eq, st_eq]
    · rw [st_ne h2, st_ne h2, st_ne h1, st_ne h2, st_ne h1]
theorem tpM_id (h : I 420 1 = nI n) : tpM I (n, I 421) = I := by
  unfold tpM
  dsimp only
  have : upd (I 420) 1 (nI n) = I 420 := by
    funext q; unfold upd; split
    · rename_i z; rw [z, h]
    · rfl
  rw [this, st_id, st_id]
theorem na2 : ∀ c, c < 256 → na 2 (nI c) = nI c := by decide +kernel
theorem ch256 : ∀ c, c < 256 → ((nI c).toUInt32 % 65536).toInt32 = nI c := by decide +kernel
theorem li256 : ∀ c, c < 256 → (lN c).toInt32 = nI c := by decide +kernel
theorem shf_s : ∀ k, k < 8 → shf k + (-8) = shf (k + 1) := by decide +kernel
theorem shf_p : ∀ k, k < 8 → (shf k < nI 0) = False := by
  intro k hk; refine eq_false ?_; revert k; decide +kernel
theorem shf_8 : (shf 8 < nI 0) = True := by decide
theorem shf_a : ∀ k, k < 8 → (shf k).toInt64 &&& 63 = Int64.ofNat (56 - 8 * k) := by decide +kernel
theorem shf_b : ∀ k, k < 24 → (nI 56 - nI 8 * (nI k &&& nI 7)).toInt64.toUInt64 &&& Int64.toUInt64 63 = UInt64.ofNat (56 - 8 * (k % 8)) := by decide +kernel
theorem sm64 : ∀ k, k < 8 → ((Int64.ofNat (56 - 8 * k)).toBitVec.smod 64).toNat = 56 - 8 * k := by decide +kernel
theorem um64 : ∀ k, k < 8 → ((UInt64.ofNat (56 - 8 * k)).toBitVec % 64).toNat = 56 - 8 * k := by decide +kernel
theorem b255 : ∀ j, j < 64 → (lN 255).toBitVec.getLsbD j = decide (j < 8) := by decide +kernel
theorem byt_bit {j : Nat} (hj : j < 64) : (lN (byt w k)).toBitVec.getLsbD j = (decide (j < 8) && w.toBitVec.getLsbD (56 - 8 * k + j)) := by
  show (BitVec.ofNat 64 (byt w k)).getLsbD j = _
  rw [BitVec.getLsbD_ofNat]
  unfold byt
  rw [show (256 : Nat) = 2 ^ 8 from rfl, Nat.testBit_mod_two_pow, ← Nat.shiftRight_eq_div_pow, Nat.testBit_shiftRight]
  simp only [hj, decide_true, Bool.true_and]
  rfl
theorem by_s (hk : k < 8) : (w >>> ((shf k).toInt64 &&& 63)) &&& lN 255 = lN (byt w k) := by
  rw [shf_a k hk]
  apply Int64.toBitVec_inj.mp
  apply BitVec.eq_of_getLsbD_eq
  intro j hj
  rw [byt_bit hj]
  show ((w >>> Int64.ofNat (56 - 8 * k)).toBitVec &&& (lN 255).toBitVec).getLsbD j = _
  rw [BitVec.getLsbD_and, b255 j hj]
  show ((w.toBitVec.sshiftRight ((Int64.ofNat (56 - 8 * k)).toBitVec.smod 64).toNat).getLsbD j && _) = _
  rw [sm64 k hk, BitVec.getLsbD_sshiftRight]
  by_cases h8 : j < 8
  · rw [if_pos (by omega)]
    simp [h8]; omega
  · simp [h8]
theorem by_u (hk : k < 24) : (w.toUInt64 >>> ((nI 56 - nI 8 * (nI k &&& nI 7)).toInt64.toUInt64 &&& Int64.toUInt64 63)).toInt64 &&& lN 255 = lN (byt w (k % 8)) := by
  rw [shf_b k hk]
  apply Int64.toBitVec_inj.mp
  apply BitVec.eq_of_getLsbD_eq
  intro j hj
  rw [byt_bit hj]
  show ((w.toBitVec >>> ((UInt64.ofNat (56 - 8 * (k % 8))).toBitVec % 64).toNat) &&& (lN 255).toBitVec).getLsbD j = _
  rw [BitVec.getLsbD_and, b255 j hj, um64 (k % 8) (by omega), BitVec.getLsbD_ushiftRight]
  rw [Bool.and_comm]
theorem okc_f (h : ¬ c = 10) (h2 : c < 32 ∨ 126 < c) : okc c = false := by unfold okc; simp [h]; omega
theorem okc_t (h : c = 10 ∨ (32 ≤ c ∧ c ≤ 126)) : okc c = true := by unfold okc; simp; omega
theorem k_tape1 (hc : c < 256) (ht : t.1 ≤ 1000) : Wp L xs d 101 0 [some (.ref (65)), some (.int (nI c))] [] (mk (tpI I t) J R Z) P = P none (mk (tpI I (fd1 c t)) J R Z) := by
  have hn := na2 c hc
  by_cases h1 : t.1 < 1000
  · by_cases h2 : c = 10
    · rw [fd1_y h1 (okc_t (Or.inl h2))]
      simp (discharger := omega) only [↓w101_0, ↓w101_1, ↓w101_4, ↓w101_7, ↓w101_10, ↓w101_11, ↓w101_13, ↓w101_16, ↓w101_17, ↓w101_19, ↓w101_22, ↓w101_23, ↓w101_25, ↓w101_28, ↓w101_29, ↓w101_32, ↓w101_33, ↓w101_36, ↓w101_37, ↓w101_38, ↓w101_39, ↓w101_40, ↓w101_43, ↓w101_44, ↓w101_45, ↓w101_48, rc65, g65_0, g65_1, p65_1, g65_2, g65_3, g65_4, g65_5, g65_6, g65_7, p65_7, gi66, si66, tpI65, tpI66, upd_eq, st_ne, hn, tpI_w, mul8, mul8', mul4, mul4', nI_add, inT, nclN, ltT, ltF, leT, leF, eqT, eqF, nzF, m1F, m1T, shr, shg, bI0, bI1, bo_bI, bo_1, bo_0, eq10, eq00, frT1, frT2, frT3, fit0, fit1, fit2, fit3, true_and, and_true, ↓reduceIte, Nat.reduceAdd, Nat.reduceMul, and_self, not_false_eq_true, not_true_eq_false, Nat.zero_add, Nat.add_zero]
    · by_cases h3 : c < 32
      · rw [fd1_n (fun z => by rw [okc_f h2 (Or.inl h3)] at z; exact absurd z.2 (by decide))]
        simp (discharger := omega) only [↓w101_0, ↓w101_1, ↓w101_4, ↓w101_7, ↓w101_10, ↓w101_11, ↓w101_13, ↓w101_16, ↓w101_17, ↓w101_19, ↓w101_22, ↓w101_23, ↓w101_25, ↓w101_28, ↓w101_29, ↓w101_32, ↓w101_33, ↓w101_36, ↓w101_37, ↓w101_38, ↓w101_39, ↓w101_40, ↓w101_43, ↓w101_44, ↓w101_45, ↓w101_48, rc65, g65_0, g65_1, p65_1, g65_2, g65_3, g65_4, g65_5, g65_6, g65_7, p65_7, gi66, si66, tpI65, tpI66, upd_eq, st_ne, hn, tpI_w, mul8, mul8', mul4, mul4', nI_add, inT, nclN, ltT, ltF, leT, leF, eqT, eqF, nzF, m1F, m1T, shr, shg, bI0, bI1, bo_bI, bo_1, bo_0, eq10, eq00, frT1, frT2, frT3, fit0, fit1, fit2, fit3, true_and, and_true, ↓reduceIte, Nat.reduceAdd, Nat.reduceMul, and_self, not_false_eq_true, not_true_eq_false, Nat.zero_add, Nat.add_zero]
      · by_cases h4 : 126 < c
        · rw [fd1_n (fun z => by rw [okc_f h2 (Or.inr h4)] at z; exact absurd z.2 (by decide))]
          simp (discharger := omega) only [↓w101_0, ↓w101_1, ↓w101_4, ↓w101_7, ↓w101_10, ↓w101_11, ↓w101_13, ↓w101_16, ↓w101_17, ↓w101_19, ↓w101_22, ↓w101_23, ↓w101_25, ↓w101_28, ↓w101_29, ↓w101_32, ↓w101_33, ↓w101_36, ↓w101_37, ↓w101_38, ↓w101_39, ↓w101_40, ↓w101_43, ↓w101_44, ↓w101_45, ↓w101_48, rc65, g65_0, g65_1, p65_1, g65_2, g65_3, g65_4, g65_5, g65_6, g65_7, p65_7, gi66, si66, tpI65, tpI66, upd_eq, st_ne, hn, tpI_w, mul8, mul8', mul4, mul4', nI_add, inT, nclN, ltT, ltF, leT, leF, eqT, eqF, nzF, m1F, m1T, shr, shg, bI0, bI1, bo_bI, bo_1, bo_0, eq10, eq00, frT1, frT2, frT3, fit0, fit1, fit2, fit3, true_and, and_true, ↓reduceIte, Nat.reduceAdd, Nat.reduceMul, and_self, not_false_eq_true, not_true_eq_false, Nat.zero_add, Nat.add_zero]
        · rw [fd1_y h1 (okc_t (by omega))]
          simp (discharger := omega) only [↓w101_0, ↓w101_1, ↓w101_4, ↓w101_7, ↓w101_10, ↓w101_11, ↓w101_13, ↓w101_16, ↓w101_17, ↓w101_19, ↓w101_22, ↓w101_23, ↓w101_25, ↓w101_28, ↓w101_29, ↓w101_32, ↓w101_33, ↓w101_36, ↓w101_37, ↓w101_38, ↓w101_39, ↓w101_40, ↓w101_43, ↓w101_44, ↓w101_45, ↓w101_48, rc65, g65_0, g65_1, p65_1, g65_2, g65_3, g65_4, g65_5, g65_6, g65_7, p65_7, gi66, si66, tpI65, tpI66, upd_eq, st_ne, hn, tpI_w, mul8, mul8', mul4, mul4', nI_add, inT, nclN, ltT, ltF, leT, leF, eqT, eqF, nzF, m1F, m1T, shr, shg, bI0, bI1, bo_bI, bo_1, bo_0, eq10, eq00, frT1, frT2, frT3, fit0, fit1, fit2, fit3, true_and, and_true, ↓reduceIte, Nat.reduceAdd, Nat.reduceMul, and_self, not_false_eq_true, not_true_eq_false, Nat.zero_add, Nat.add_zero]
  · rw [fd1_n (fun z => h1 z.1)]
    simp (discharger := omega) only [↓w101_0, ↓w101_1, ↓w101_4, ↓w101_7, ↓w101_10, ↓w101_11, ↓w101_13, ↓w101_16, ↓w101_17, ↓w101_19, ↓w101_22, ↓w101_23, ↓w101_25, ↓w101_28, ↓w101_29, ↓w101_32, ↓w101_33, ↓w101_36, ↓w101_37, ↓w101_38, ↓w101_39, ↓w101_40, ↓w101_43, ↓w101_44, ↓w101_45, ↓w101_48, rc65, g65_0, g65_1, p65_1, g65_2, g65_3, g65_4, g65_5, g65_6, g65_7, p65_7, gi66, si66, tpI65, tpI66, upd_eq, st_ne, hn, tpI_w, mul8, mul8', mul4, mul4', nI_add, inT, nclN, ltT, ltF, leT, leF, eqT, eqF, nzF, m1F, m1T, shr, shg, bI0, bI1, bo_bI, bo_1, bo_0, eq10, eq00, frT1, frT2, frT3, fit0, fit1, fit2, fit3, true_and, and_true, ↓reduceIte, Nat.reduceAdd, Nat.reduceMul, and_self, not_false_eq_true, not_true_eq_false, Nat.zero_add, Nat.add_zero]
theorem lp_le {B : Nat → Tp → Tp} (hB : ∀ k t, t.1 ≤ 1000 → (B k t).1 ≤ 1000) (ht : t.1 ≤ 1000) : ∀ n, (lp B n t).1 ≤ 1000
  | 0 => ht
  | n + 1 => hB n _ (lp_le hB ht n)
theorem fd8_le (ht : t.1 ≤ 1000) : (fd8 w t).1 ≤ 1000 := lp_le (fun k t h => fd1_le h) ht 8
theorem k_feedBytes (ht : t.1 ≤ 1000) : Wp L xs (d+1) 160 0 [some (.ref (64)), some (.long (w)), none, none] [] (mk (tpI I t) J R Z) P = P none (mk (tpI I (fd8 w t)) J R Z) := by
  simp (discharger := omega) only [↓w160_0, ↓w160_2, ↓w160_4, ↓w160_7, ↓w160_8, ↓w160_11, ↓w160_12, ↓w160_13, ↓w160_14, ↓w160_17, ↓w160_18, ↓w160_19, ↓w160_20, ↓w160_23, ↓w160_26, ↓w160_29, mul8, mul8', mul4, mul4', nI_add, inT, nclN, ltT, ltF, leT, leF, eqT, eqF, nzF, m1F, m1T, shr, shg, bI0, bI1, bo_bI, bo_1, bo_0, eq10, eq00, frT1, frT2, frT3, fit0, fit1, fit2, fit3, true_and, and_true, ↓reduceIte, Nat.reduceAdd, Nat.reduceMul, and_self, not_false_eq_true, not_true_eq_false, Nat.zero_add, Nat.add_zero]
  have key := (lp_runI (F := fun i t => Wp L xs (d+1) 160 3 [some (.ref (64)), some (.long (w)), none, some (.int (shf i))] [] (mk (tpI I t) J R Z) P) (B := fun k t => fd1 (byt w k) t) (Q := fun _ t => t.1 ≤ 1000) (n := 8) t ht (fun i t hi ht => by
    refine ⟨w160_3.trans ?_, fd1_le ht⟩
    have ha := fun P => k_tape1 (L := L) (xs := xs) (d := d) (I := I) (J := J) (R := R) (Z := Z) (P := P) (t := t) (byt_lt (w := w) (k := i)) ht
    simp (discharger := omega) only [↓w160_0, ↓w160_2, ↓w160_4, ↓w160_7, ↓w160_8, ↓w160_11, ↓w160_12, ↓w160_13, ↓w160_14, ↓w160_17, ↓w160_18, ↓w160_19, ↓w160_20, ↓w160_23, ↓w160_26, ↓w160_29, shf_p i hi, by_s hi, li256 _ byt_lt, ch256 _ byt_lt, ↓ha, shf_s i hi, ↓kc_i, ↓kc_l, ↓kc_r, ↓kc_n, rc64, g64_0, g64_1, g64_2, g64_3, g64_4, g64_5, g64_6, g64_7, g64_8, g64_9, g64_10, g64_11, g64_12, rc65, g65_0, g65_1, p65_1, g65_2, g65_3, g65_4, g65_5, g65_6, g65_7, p65_7, mul8, mul8', mul4, mul4', nI_add, inT, nclN, ltT, ltF, leT, leF, eqT, eqF, nzF, m1F, m1T, shr, shg, bI0, bI1, bo_bI, bo_1, bo_0, eq10, eq00, frT1, frT2, frT3, fit0, fit1, fit2, fit3, true_and, and_true, ↓reduceIte, Nat.reduceAdd, Nat.reduceMul, and_self, not_false_eq_true, not_true_eq_false, Nat.zero_add, Nat.add_zero])).1
  refine Eq.trans key ?_
  refine w160_3.trans ?_
  simp (discharger := omega) only [↓w160_0, ↓w160_2, ↓w160_4, ↓w160_7, ↓w160_8, ↓w160_11, ↓w160_12, ↓w160_13, ↓w160_14, ↓w160_17, ↓w160_18, ↓w160_19, ↓w160_20, ↓w160_23, ↓w160_26, ↓w160_29, shf_8, mul8, mul8', mul4, mul4', nI_add, inT, nclN, ltT, ltF, leT, leF, eqT, eqF, nzF, m1F, m1T, shr, shg, bI0, bI1, bo_bI, bo_1, bo_0, eq10, eq00, frT1, frT2, frT3, fit0, fit1, fit2, fit3, true_and, and_true, ↓reduceIte, Nat.reduceAdd, Nat.reduceMul, and_self, not_false_eq_true, not_true_eq_false, Nat.zero_add, Nat.add_zero]
  exact Eq.refl _
def fdA (a b e : Int64) (t : Tp) : Tp := fd8 e (fd8 b (fd8 a t))
theorem k_feed (hn : I 65 1 = nI n) (hl : n ≤ 1000) : Wp L xs (d+2) 115 0 [some (.ref (64)), some (.long (a)), none, some (.long (b)), none, some (.long (e)), none] [] (mk I J R Z) P = P (some (.int (nI (fdA a b e (n, I 66)).1))) (mk (tpI I (fdA a b e (n, I 66))) J R Z) := by
  have h1 := fun P => k_feedBytes (L := L) (xs := xs) (d := d) (I := I) (J := J) (R := R) (Z := Z) (P := P) (w := a) (t := (n, I 66)) hl
  rw [tpI_id hn] at h1
  have l1 : (fd8 a (n, I 66)).1 ≤ 1000 := fd8_le hl
  have h2 := fun P => k_feedBytes (L := L) (xs := xs) (d := d) (I := I) (J := J) (R := R) (Z := Z) (P := P) (w := b) l1
  have l2 : (fd8 b (fd8 a (n, I 66))).1 ≤ 1000 := fd8_le l1
  have h3 := fun P => k_feedBytes (L := L) (xs := xs) (d := d) (I := I) (J := J) (R := R) (Z := Z) (P := P) (w := e) l2
  unfold fdA
  generalize fd8 a (n, I 66) = t1 at *
  generalize fd8 b t1 = t2 at *
  generalize fd8 e t2 = t3 at *
  simp (discharger := omega) only [↓w115_0, ↓w115_1, ↓w115_2, ↓w115_5, ↓w115_6, ↓w115_7, ↓w115_10, ↓w115_11, ↓w115_13, ↓w115_16, ↓w115_17, ↓w115_20, ↓w115_23, ↓h1, ↓h2, ↓h3, tpI65, upd_eq, ↓kc_i, ↓kc_l, ↓kc_r, ↓kc_n, rc64, g64_0, g64_1, g64_2, g64_3, g64_4, g64_5, g64_6, g64_7, g64_8, g64_9, g64_10, g64_11, g64_12, rc65, g65_0, g65_1, p65_1, g65_2, g65_3, g65_4, g65_5, g65_6, g65_7, p65_7, mul8, mul8', mul4, mul4', nI_add, inT, nclN, ltT, ltF, leT, leF, eqT, eqF, nzF, m1F, m1T, shr, shg, bI0, bI1, bo_bI, bo_1, bo_0, eq10, eq00, frT1, frT2, frT3, fit0, fit1, fit2, fit3, true_and, and_true, ↓reduceIte, Nat.reduceAdd, Nat.reduceMul, and_self, not_false_eq_true, not_true_eq_false, Nat.zero_add, Nat.add_zero]
theorem lp_add {S : Type} {B : Nat → S → S} {s : S} {m : Nat} : ∀ n, lp B (m + n) s = lp (fun i => B (m + i)) n (lp B m s)
  | 0 => rfl
  | n + 1 => by show B (m + n) (lp B (m + n) s) = B (m + n) _; rw [lp_add n]
def fdw (a b e : Int64) (i : Nat) : Int64 := if i < 8 then a else if i < 16 then b else e
theorem fdA_lp : lp (fun i t => fd1 (byt (fdw a b e i) (i % 8)) t) 24 t = fdA a b e t := by
  rw [show (24 : Nat) = 8 + (8 + 8) from rfl, lp_add, lp_add]
  unfold fdA fd8
  rw [lp_cg (B := fun i t => fd1 (byt (fdw a b e i) (i % 8)) t) (B' := fun k t => fd1 (byt a k) t) (fun i hi s => by unfold fdw; rw [if_pos hi, Nat.mod_eq_of_lt hi])]
  rw [lp_cg (B := fun i t => fd1 (byt (fdw a b e (8 + i)) ((8 + i) % 8)) t) (B' := fun k t => fd1 (byt b k) t) (fun i hi s => by unfold fdw; rw [if_neg (by omega), if_pos (by omega), show (8 + i) % 8 = i by omega])]
  rw [lp_cg (B := fun i t => fd1 (byt (fdw a b e (8 + (8 + i))) ((8 + (8 + i)) % 8)) t) (B' := fun k t => fd1 (byt e k) t) (fun i hi s => by unfold fdw; rw [if_neg (by omega), if_neg (by omega), show (8 + (8 + i)) % 8 = i by omega])]
theorem m_fbody {t8 t10 : Option Value} (hi : i < 24) (ht : t.1 ≤ 1000) : Wp L xs d 176 8 [some (.ref (420)), some (.long (a)), none, some (.long (b)), none, some (.long (e)), none, some (.int (nI i)), t8, none, t10] [] (mk (pm (tpM I t) V) J R Z) P = Wp L xs d 176 8 [some (.ref (420)), some (.long (a)), none, some (.long (b)), none, some (.long (e)), none, some (.int (nI (i + 1))), some (.long (fdw a b e i)), none, some (.int (nI (byt (fdw a b e i) (i % 8))))] [] (mk (pm (tpM I (fd1 (byt (fdw a b e i) (i % 8)) t)) V) J R Z) P := by
  refine w176_8.trans ?_
  have hu := fun w : Int64 => by_u (w := w) hi
  have hlt : byt (fdw a b e i) (i % 8) < 256 := byt_lt
  have hx := li256 _ hlt
  have hw : ∀ w, fdw a b e i = w → byt w (i % 8) = byt (fdw a b e i) (i % 8) := fun w h => by rw [h]
  generalize hc : byt (fdw a b e i) (i % 8) = c at *
  have fin : Wp L xs d 176 62 [some (.ref (420)), some (.long (a)), none, some (.long (b)), none, some (.long (e)), none, some (.int (nI i)), some (.long ((fdw a b e i))), none, some (.int (nI c))] [] (mk (pm (tpM I t) V) J R Z) P = Wp L xs d 176 8 [some (.ref (420)), some (.long (a)), none, some (.long (b)), none, some (.long (e)), none, some (.int (nI (i + 1))), some (.long (fdw a b e i)), none, some (.int (nI c))] [] (mk (pm (tpM I (fd1 c t)) V) J R Z) P := by
    by_cases h1 : t.1 < 1000
    · by_cases h2 : c = 10
      · rw [fd1_y h1 (okc_t (Or.inl h2))]
        simp (discharger := omega) only [↓w176_0, ↓w176_1, ↓w176_2, ↓w176_5, ↓w176_6, ↓w176_10, ↓w176_12, ↓w176_15, ↓w176_17, ↓w176_19, ↓w176_22, ↓w176_23, ↓w176_26, ↓w176_28, ↓w176_30, ↓w176_33, ↓w176_34, ↓w176_37, ↓w176_39, ↓w176_41, ↓w176_43, ↓w176_45, ↓w176_47, ↓w176_49, ↓w176_51, ↓w176_52, ↓w176_53, ↓w176_54, ↓w176_55, ↓w176_58, ↓w176_59, ↓w176_60, ↓w176_62, ↓w176_63, ↓w176_66, ↓w176_69, ↓w176_72, ↓w176_74, ↓w176_76, ↓w176_79, ↓w176_81, ↓w176_83, ↓w176_86, ↓w176_88, ↓w176_90, ↓w176_93, ↓w176_94, ↓w176_97, ↓w176_98, ↓w176_101, ↓w176_103, ↓w176_104, ↓w176_105, ↓w176_106, ↓w176_109, ↓w176_110, ↓w176_111, ↓w176_114, ↓w176_117, ↓w176_120, ↓w176_121, ↓w176_124, rc420, g420_0, p420_0, g420_1, p420_1, g420_2, g420_3, p420_3, g420_4, p420_4, g420_5, p420_5, g420_6, p420_6, g420_7, p420_7, g420_8, p420_8, g420_9, p420_9, g420_10, g420_11, g420_12, g420_13, g420_14, g420_15, g420_16, g420_17, g420_18, g420_19, p420_19, g420_20, g420_21, g420_22, g420_23, g420_24, g420_25, g420_26, g420_27, g420_28, g420_29, g420_30, g420_31, g420_32, p420_32, g420_33, g420_34, g420_35, g420_36, g420_37, g420_38, g420_39, g420_40, g420_41, g420_42, g420_43, g420_44, g420_45, g420_46, g420_47, p420_47, g420_48, g420_49, p420_49, gi421, si421, pm_eq, pm_ne, st_pm, st_pmne, rd1, rd2, rd3, rd4, rd5, rd6, rd2s, rd3s, rd4s, rd5s, rd7, rd8, rd9, rd10, rd11, rd0, rdc, wr1, wr2, wr3, wr4, wr5, wr6, wr2s, wr3s, wr4s, wr5s, wr7, wr8, wr9, wr10, wr11, wr0, wrc, st_ne, st_eq, st_st, tpM420, tpM421, upd_eq, st_ne, tpM_w, mul8, mul8', mul4, mul4', nI_add, inT, nclN, ltT, ltF, leT, leF, eqT, eqF, nzF, m1F, m1T, shr, shg, bI0, bI1, bo_bI, bo_1, bo_0, eq10, eq00, frT1, frT2, frT3, fit0, fit1, fit2, fit3, true_and, and_true, ↓reduceIte, Nat.reduceAdd, Nat.reduceMul, and_self, not_false_eq_true, not_true_eq_false, Nat.zero_add, Nat.add_zero]
      · by_cases h3 : c < 32
        · rw [fd1_n (fun z => by rw [okc_f h2 (Or.inl h3)] at z; exact absurd z.2 (by decide))]
          simp (discharger := omega) only [↓w176_0, ↓w176_1, ↓w176_2, ↓w176_5, ↓w176_6, ↓w176_10, ↓w176_12, ↓w176_15, ↓w176_17, ↓w176_19, ↓w176_22, ↓w176_23, ↓w176_26, ↓w176_28, ↓w176_30, ↓w176_33, ↓w176_34, ↓w176_37, ↓w176_39, ↓w176_41, ↓w176_43, ↓w176_45, ↓w176_47, ↓w176_49, ↓w176_51, ↓w176_52, ↓w176_53, ↓w176_54, ↓w176_55, ↓w176_58, ↓w176_59, ↓w176_60, ↓w176_62, ↓w176_63, ↓w176_66, ↓w176_69, ↓w176_72, ↓w176_74, ↓w176_76, ↓w176_79, ↓w176_81, ↓w176_83, ↓w176_86, ↓w176_88, ↓w176_90, ↓w176_93, ↓w176_94, ↓w176_97, ↓w176_98, ↓w176_101, ↓w176_103, ↓w176_104, ↓w176_105, ↓w176_106, ↓w176_109, ↓w176_110, ↓w176_111, ↓w176_114, ↓w176_117, ↓w176_120, ↓w176_121, ↓w176_124, rc420, g420_0, p420_0, g420_1, p420_1, g420_2, g420_3, p420_3, g420_4, p420_4, g420_5, p420_5, g420_6, p420_6, g420_7, p420_7, g420_8, p420_8, g420_9, p420_9, g420_10, g420_11, g420_12, g420_13, g420_14, g420_15, g420_16, g420_17, g420_18, g420_19, p420_19, g420_20, g420_21, g420_22, g420_23, g420_24, g420_25, g420_26, g420_27, g420_28, g420_29, g420_30, g420_31, g420_32, p420_32, g420_33, g420_34, g420_35, g420_36, g420_37, g420_38, g420_39, g420_40, g420_41, g420_42, g420_43, g420_44, g420_45, g420_46, g420_47, p420_47, g420_48, g420_49, p420_49, gi421, si421, pm_eq, pm_ne, st_pm, st_pmne, rd1, rd2, rd3, rd4, rd5, rd6, rd2s, rd3s, rd4s, rd5s, rd7, rd8, rd9, rd10, rd11, rd0, rdc, wr1, wr2, wr3, wr4, wr5, wr6, wr2s, wr3s, wr4s, wr5s, wr7, wr8, wr9, wr10, wr11, wr0, wrc, st_ne, st_eq, st_st, tpM420, tpM421, upd_eq, st_ne, tpM_w, mul8, mul8', mul4, mul4', nI_add, inT, nclN, ltT, ltF, leT, leF, eqT, eqF, nzF, m1F, m1T, shr, shg, bI0, bI1, bo_bI, bo_1, bo_0, eq10, eq00, frT1, frT2, frT3, fit0, fit1, fit2, fit3, true_and, and_true, ↓reduceIte, Nat.reduceAdd, Nat.reduceMul, and_self, not_false_eq_true, not_true_eq_false, Nat.zero_add, Nat.add_zero]
        · by_cases h4 : 126 < c
          · rw [fd1_n (fun z => by rw [okc_f h2 (Or.inr h4)] at z; exact absurd z.2 (by decide))]
            simp (discharger := omega) only [↓w176_0, ↓w176_1, ↓w176_2, ↓w176_5, ↓w176_6, ↓w176_10, ↓w176_12, ↓w176_15, ↓w176_17, ↓w176_19, ↓w176_22, ↓w176_23, ↓w176_26, ↓w176_28, ↓w176_30, ↓w176_33, ↓w176_34, ↓w176_37, ↓w176_39, ↓w176_41, ↓w176_43, ↓w176_45, ↓w176_47, ↓w176_49, ↓w176_51, ↓w176_52, ↓w176_53, ↓w176_54, ↓w176_55, ↓w176_58, ↓w176_59, ↓w176_60, ↓w176_62, ↓w176_63, ↓w176_66, ↓w176_69, ↓w176_72, ↓w176_74, ↓w176_76, ↓w176_79, ↓w176_81, ↓w176_83, ↓w176_86, ↓w176_88, ↓w176_90, ↓w176_93, ↓w176_94, ↓w176_97, ↓w176_98, ↓w176_101, ↓w176_103, ↓w176_104, ↓w176_105, ↓w176_106, ↓w176_109, ↓w176_110, ↓w176_111, ↓w176_114, ↓w176_117, ↓w176_120, ↓w176_121, ↓w176_124, rc420, g420_0, p420_0, g420_1, p420_1, g420_2, g420_3, p420_3, g420_4, p420_4, g420_5, p420_5, g420_6, p420_6, g420_7, p420_7, g420_8, p420_8, g420_9, p420_9, g420_10, g420_11, g420_12, g420_13, g420_14, g420_15, g420_16, g420_17, g420_18, g420_19, p420_19, g420_20, g420_21, g420_22, g420_23, g420_24, g420_25, g420_26, g420_27, g420_28, g420_29, g420_30, g420_31, g420_32, p420_32, g420_33, g420_34, g420_35, g420_36, g420_37, g420_38, g420_39, g420_40, g420_41, g420_42, g420_43, g420_44, g420_45, g420_46, g420_47, p420_47, g420_48, g420_49, p420_49, gi421, si421, pm_eq, pm_ne, st_pm, st_pmne, rd1, rd2, rd3, rd4, rd5, rd6, rd2s, rd3s, rd4s, rd5s, rd7, rd8, rd9, rd10, rd11, rd0, rdc, wr1, wr2, wr3, wr4, wr5, wr6, wr2s, wr3s, wr4s, wr5s, wr7, wr8, wr9, wr10, wr11, wr0, wrc, st_ne, st_eq, st_st, tpM420, tpM421, upd_eq, st_ne, tpM_w, mul8, mul8', mul4, mul4', nI_add, inT, nclN, ltT, ltF, leT, leF, eqT, eqF, nzF, m1F, m1T, shr, shg, bI0, bI1, bo_bI, bo_1, bo_0, eq10, eq00, frT1, frT2, frT3, fit0, fit1, fit2, fit3, true_and, and_true, ↓reduceIte, Nat.reduceAdd, Nat.reduceMul, and_self, not_false_eq_true, not_true_eq_false, Nat.zero_add, Nat.add_zero]
          · rw [fd1_y h1 (okc_t (by omega))]
            simp (discharger := omega) only [↓w176_0, ↓w176_1, ↓w176_2, ↓w176_5, ↓w176_6, ↓w176_10, ↓w176_12, ↓w176_15, ↓w176_17, ↓w176_19, ↓w176_22, ↓w176_23, ↓w176_26, ↓w176_28, ↓w176_30, ↓w176_33, ↓w176_34, ↓w176_37, ↓w176_39, ↓w176_41, ↓w176_43, ↓w176_45, ↓w176_47, ↓w176_49, ↓w176_51, ↓w176_52, ↓w176_53, ↓w176_54, ↓w176_55, ↓w176_58, ↓w176_59, ↓w176_60, ↓w176_62, ↓w176_63, ↓w176_66, ↓w176_69, ↓w176_72, ↓w176_74, ↓w176_76, ↓w176_79, ↓w176_81, ↓w176_83, ↓w176_86, ↓w176_88, ↓w176_90, ↓w176_93, ↓w176_94, ↓w176_97, ↓w176_98, ↓w176_101, ↓w176_103, ↓w176_104, ↓w176_105, ↓w176_106, ↓w176_109, ↓w176_110, ↓w176_111, ↓w176_114, ↓w176_117, ↓w176_120, ↓w176_121, ↓w176_124, rc420, g420_0, p420_0, g420_1, p420_1, g420_2, g420_3, p420_3, g420_4, p420_4, g420_5, p420_5, g420_6, p420_6, g420_7, p420_7, g420_8, p420_8, g420_9, p420_9, g420_10, g420_11, g420_12, g420_13, g420_14, g420_15, g420_16, g420_17, g420_18, g420_19, p420_19, g420_20, g420_21, g420_22, g420_23, g420_24, g420_25, g420_26, g420_27, g420_28, g420_29, g420_30, g420_31, g420_32, p420_32, g420_33, g420_34, g420_35, g420_36, g420_37, g420_38, g420_39, g420_40, g420_41, g420_42, g420_43, g420_44, g420_45, g420_46, g420_47, p420_47, g420_48, g420_49, p420_49, gi421, si421, pm_eq, pm_ne, st_pm, st_pmne, rd1, rd2, rd3, rd4, rd5, rd6, rd2s, rd3s, rd4s, rd5s, rd7, rd8, rd9, rd10, rd11, rd0, rdc, wr1, wr2, wr3, wr4, wr5, wr6, wr2s, wr3s, wr4s, wr5s, wr7, wr8, wr9, wr10, wr11, wr0, wrc, st_ne, st_eq, st_st, tpM420, tpM421, upd_eq, st_ne, tpM_w, mul8, mul8', mul4, mul4', nI_add, inT, nclN, ltT, ltF, leT, leF, eqT, eqF, nzF, m1F, m1T, shr, shg, bI0, bI1, bo_bI, bo_1, bo_0, eq10, eq00, frT1, frT2, frT3, fit0, fit1, fit2, fit3, true_and, and_true, ↓reduceIte, Nat.reduceAdd, Nat.reduceMul, and_self, not_false_eq_true, not_true_eq_false, Nat.zero_add, Nat.add_zero]
    · rw [fd1_n (fun z => h1 z.1)]
      simp (discharger := omega) only [↓w176_0, ↓w176_1, ↓w176_2, ↓w176_5, ↓w176_6, ↓w176_10, ↓w176_12, ↓w176_15, ↓w176_17, ↓w176_19, ↓w176_22, ↓w176_23, ↓w176_26, ↓w176_28, ↓w176_30, ↓w176_33, ↓w176_34, ↓w176_37, ↓w176_39, ↓w176_41, ↓w176_43, ↓w176_45, ↓w176_47, ↓w176_49, ↓w176_51, ↓w176_52, ↓w176_53, ↓w176_54, ↓w176_55, ↓w176_58, ↓w176_59, ↓w176_60, ↓w176_62, ↓w176_63, ↓w176_66, ↓w176_69, ↓w176_72, ↓w176_74, ↓w176_76, ↓w176_79, ↓w176_81, ↓w176_83, ↓w176_86, ↓w176_88, ↓w176_90, ↓w176_93, ↓w176_94, ↓w176_97, ↓w176_98, ↓w176_101, ↓w176_103, ↓w176_104, ↓w176_105, ↓w176_106, ↓w176_109, ↓w176_110, ↓w176_111, ↓w176_114, ↓w176_117, ↓w176_120, ↓w176_121, ↓w176_124, rc420, g420_0, p420_0, g420_1, p420_1, g420_2, g420_3, p420_3, g420_4, p420_4, g420_5, p420_5, g420_6, p420_6, g420_7, p420_7, g420_8, p420_8, g420_9, p420_9, g420_10, g420_11, g420_12, g420_13, g420_14, g420_15, g420_16, g420_17, g420_18, g420_19, p420_19, g420_20, g420_21, g420_22, g420_23, g420_24, g420_25, g420_26, g420_27, g420_28, g420_29, g420_30, g420_31, g420_32, p420_32, g420_33, g420_34, g420_35, g420_36, g420_37, g420_38, g420_39, g420_40, g420_41, g420_42, g420_43, g420_44, g420_45, g420_46, g420_47, p420_47, g420_48, g420_49, p420_49, gi421, si421, pm_eq, pm_ne, st_pm, st_pmne, rd1, rd2, rd3, rd4, rd5, rd6, rd2s, rd3s, rd4s, rd5s, rd7, rd8, rd9, rd10, rd11, rd0, rdc, wr1, wr2, wr3, wr4, wr5, wr6, wr2s, wr3s, wr4s, wr5s, wr7, wr8, wr9, wr10, wr11, wr0, wrc, st_ne, st_eq, st_st, tpM420, tpM421, upd_eq, st_ne, tpM_w, mul8, mul8', mul4, mul4', nI_add, inT, nclN, ltT, ltF, leT, leF, eqT, eqF, nzF, m1F, m1T, shr, shg, bI0, bI1, bo_bI, bo_1, bo_0, eq10, eq00, frT1, frT2, frT3, fit0, fit1, fit2, fit3, true_and, and_true, ↓reduceIte, Nat.reduceAdd, Nat.reduceMul, and_self, not_false_eq_true, not_true_eq_false, Nat.zero_add, Nat.add_zero]
  rw [← fin]
  by_cases q1 : i < 8
  · have e1 : fdw a b e i = a := if_pos q1
    have e2 := hw a e1
    rw [e1]
    simp (discharger := omega) only [↓w176_0, ↓w176_1, ↓w176_2, ↓w176_5, ↓w176_6, ↓w176_10, ↓w176_12, ↓w176_15, ↓w176_17, ↓w176_19, ↓w176_22, ↓w176_23, ↓w176_26, ↓w176_28, ↓w176_30, ↓w176_33, ↓w176_34, ↓w176_37, ↓w176_39, ↓w176_41, ↓w176_43, ↓w176_45, ↓w176_47, ↓w176_49, ↓w176_51, ↓w176_52, ↓w176_53, ↓w176_54, ↓w176_55, ↓w176_58, ↓w176_59, ↓w176_60, ↓w176_63, ↓w176_66, ↓w176_69, ↓w176_72, ↓w176_74, ↓w176_76, ↓w176_79, ↓w176_81, ↓w176_83, ↓w176_86, ↓w176_88, ↓w176_90, ↓w176_93, ↓w176_94, ↓w176_97, ↓w176_98, ↓w176_101, ↓w176_103, ↓w176_104, ↓w176_105, ↓w176_106, ↓w176_109, ↓w176_110, ↓w176_111, ↓w176_114, ↓w176_117, ↓w176_120, ↓w176_121, ↓w176_124, hu, e2, hx, mul8, mul8', mul4, mul4', nI_add, inT, nclN, ltT, ltF, leT, leF, eqT, eqF, nzF, m1F, m1T, shr, shg, bI0, bI1, bo_bI, bo_1, bo_0, eq10, eq00, frT1, frT2, frT3, fit0, fit1, fit2, fit3, true_and, and_true, ↓reduceIte, Nat.reduceAdd, Nat.reduceMul, and_self, not_false_eq_true, not_true_eq_false, Nat.zero_add, Nat.add_zero]
  · by_cases q2 : i < 16
    · have e1 : fdw a b e i = b := by unfold fdw; rw [if_neg q1, if_pos q2]
      have e2 := hw b e1
      rw [e1]
      simp (discharger := omega) only [↓w176_0, ↓w176_1, ↓w176_2, ↓w176_5, ↓w176_6, ↓w176_10, ↓w176_12, ↓w176_15, ↓w176_17, ↓w176_19, ↓w176_22, ↓w176_23, ↓w176_26, ↓w176_28, ↓w176_30, ↓w176_33, ↓w176_34, ↓w176_37, ↓w176_39, ↓w176_41, ↓w176_43, ↓w176_45, ↓w176_47, ↓w176_49, ↓w176_51, ↓w176_52, ↓w176_53, ↓w176_54, ↓w176_55, ↓w176_58, ↓w176_59, ↓w176_60, ↓w176_63, ↓w176_66, ↓w176_69, ↓w176_72, ↓w176_74, ↓w176_76, ↓w176_79, ↓w176_81, ↓w176_83, ↓w176_86, ↓w176_88, ↓w176_90, ↓w176_93, ↓w176_94, ↓w176_97, ↓w176_98, ↓w176_101, ↓w176_103, ↓w176_104, ↓w176_105, ↓w176_106, ↓w176_109, ↓w176_110, ↓w176_111, ↓w176_114, ↓w176_117, ↓w176_120, ↓w176_121, ↓w176_124, hu, e2, hx, mul8, mul8', mul4, mul4', nI_add, inT, nclN, ltT, ltF, leT, leF, eqT, eqF, nzF, m1F, m1T, shr, shg, bI0, bI1, bo_bI, bo_1, bo_0, eq10, eq00, frT1, frT2, frT3, fit0, fit1, fit2, fit3, true_and, and_true, ↓reduceIte, Nat.reduceAdd, Nat.reduceMul, and_self, not_false_eq_true, not_true_eq_false, Nat.zero_add, Nat.add_zero]
    · have e1 : fdw a b e i = e := by unfold fdw; rw [if_neg q1, if_neg q2]
      have e2 := hw e e1
      rw [e1]
      simp (discharger := omega) only [↓w176_0, ↓w176_1, ↓w176_2, ↓w176_5, ↓w176_6, ↓w176_10, ↓w176_12, ↓w176_15, ↓w176_17, ↓w176_19, ↓w176_22, ↓w176_23, ↓w176_26, ↓w176_28, ↓w176_30, ↓w176_33, ↓w176_34, ↓w176_37, ↓w176_39, ↓w176_41, ↓w176_43, ↓w176_45, ↓w176_47, ↓w176_49, ↓w176_51, ↓w176_52, ↓w176_53, ↓w176_54, ↓w176_55, ↓w176_58, ↓w176_59, ↓w176_60, ↓w176_63, ↓w176_66, ↓w176_69, ↓w176_72, ↓w176_74, ↓w176_76, ↓w176_79, ↓w176_81, ↓w176_83, ↓w176_86, ↓w176_88, ↓w176_90, ↓w176_93, ↓w176_94, ↓w176_97, ↓w176_98, ↓w176_101, ↓w176_103, ↓w176_104, ↓w176_105, ↓w176_106, ↓w176_109, ↓w176_110, ↓w176_111, ↓w176_114, ↓w176_117, ↓w176_120, ↓w176_121, ↓w176_124, hu, e2, hx, mul8, mul8', mul4, mul4', nI_add, inT, nclN, ltT, ltF, leT, leF, eqT, eqF, nzF, m1F, m1T, shr, shg, bI0, bI1, bo_bI, bo_1, bo_0, eq10, eq00, frT1, frT2, frT3, fit0, fit1, fit2, fit3, true_and, and_true, ↓reduceIte, Nat.reduceAdd, Nat.reduceMul, and_self, not_false_eq_true, not_true_eq_false, Nat.zero_add, Nat.add_zero]
theorem m_feed (hn : I 420 1 = nI n) (hl : n ≤ 1000) : Wp L xs d 176 0 [some (.ref (420)), some (.long (a)), none, some (.long (b)), none, some (.long (e)), none, none, none, none, none] [] (mk (pm I V) J R Z) P = P (some (.int (nI (fdA a b e (n, I 421)).1))) (mk (pm (tpM (st I 420 (upd (I 420) 0 (nI 0))) (fdA a b e (n, I 421))) V) J R Z) := by
  have h0 : tpM (st I 420 (upd (I 420) 0 (nI 0))) (n, I 421) = st I 420 (upd (I 420) 0 (nI 0)) := by
    have := tpM_id (I := st I 420 (upd (I 420) 0 (nI 0))) (n := n) (by rw [st_eq, upd_ne (by decide), hn])
    rw [st_ne (by decide)] at this
    exact this
  simp (discharger := omega) only [↓w176_0, ↓w176_1, ↓w176_2, ↓w176_5, ↓w176_6, ↓w176_10, ↓w176_12, ↓w176_15, ↓w176_17, ↓w176_19, ↓w176_22, ↓w176_23, ↓w176_26, ↓w176_28, ↓w176_30, ↓w176_33, ↓w176_34, ↓w176_37, ↓w176_39, ↓w176_41, ↓w176_43, ↓w176_45, ↓w176_47, ↓w176_49, ↓w176_51, ↓w176_52, ↓w176_53, ↓w176_54, ↓w176_55, ↓w176_58, ↓w176_59, ↓w176_60, ↓w176_62, ↓w176_63, ↓w176_66, ↓w176_69, ↓w176_72, ↓w176_74, ↓w176_76, ↓w176_79, ↓w176_81, ↓w176_83, ↓w176_86, ↓w176_88, ↓w176_90, ↓w176_93, ↓w176_94, ↓w176_97, ↓w176_98, ↓w176_101, ↓w176_103, ↓w176_104, ↓w176_105, ↓w176_106, ↓w176_109, ↓w176_110, ↓w176_111, ↓w176_114, ↓w176_117, ↓w176_120, ↓w176_121, ↓w176_124, rc420, g420_0, p420_0, g420_1, p420_1, g420_2, g420_3, p420_3, g420_4, p420_4, g420_5, p420_5, g420_6, p420_6, g420_7, p420_7, g420_8, p420_8, g420_9, p420_9, g420_10, g420_11, g420_12, g420_13, g420_14, g420_15, g420_16, g420_17, g420_18, g420_19, p420_19, g420_20, g420_21, g420_22, g420_23, g420_24, g420_25, g420_26, g420_27, g420_28, g420_29, g420_30, g420_31, g420_32, p420_32, g420_33, g420_34, g420_35, g420_36, g420_37, g420_38, g420_39, g420_40, g420_41, g420_42, g420_43, g420_44, g420_45, g420_46, g420_47, p420_47, g420_48, g420_49, p420_49, gi421, si421, pm_eq, pm_ne, st_pm, st_pmne, rd1, rd2, rd3, rd4, rd5, rd6, rd2s, rd3s, rd4s, rd5s, rd7, rd8, rd9, rd10, rd11, rd0, rdc, wr1, wr2, wr3, wr4, wr5, wr6, wr2s, wr3s, wr4s, wr5s, wr7, wr8, wr9, wr10, wr11, wr0, wrc, st_ne, st_eq, st_st, mul8, mul8', mul4, mul4', nI_add, inT, nclN, ltT, ltF, leT, leF, eqT, eqF, nzF, m1F, m1T, shr, shg, bI0, bI1, bo_bI, bo_1, bo_0, eq10, eq00, frT1, frT2, frT3, fit0, fit1, fit2, fit3, true_and, and_true, ↓reduceIte, Nat.reduceAdd, Nat.reduceMul, and_self, not_false_eq_true, not_true_eq_false, Nat.zero_add, Nat.add_zero]
  rw [← fdA_lp]
  generalize hI1 : st I 420 (upd (I 420) 0 (nI 0)) = I1 at *
  have key : ∀ m, m ≤ 24 → (lp (fun i t => fd1 (byt (fdw a b e i) (i % 8)) t) m (n, I 421)).1 ≤ 1000 ∧ ∃ t8 t10, Wp L xs d 176 8 [some (.ref (420)), some (.long (a)), none, some (.long (b)), none, some (.long (e)), none, some (.int (nI 0)), none, none, none] [] (mk (pm I1 V) J R Z) P = Wp L xs d 176 8 [some (.ref (420)), some (.long (a)), none, some (.long (b)), none, some (.long (e)), none, some (.int (nI m)), t8, none, t10] [] (mk (pm (tpM I1 (lp (fun i t => fd1 (byt (fdw a b e i) (i % 8)) t) m (n, I 421))) V) J R Z) P := by
    intro m
    induction m with
    | zero => intro _; exact ⟨hl, none, none, by show _ = Wp L xs d 176 8 [some (.ref (420)), some (.long (a)), none, some (.long (b)), none, some (.long (e)), none, some (.int (nI 0)), none, none, none] [] (mk (pm (tpM I1 (n, I 421)) V) J R Z) P; rw [h0]⟩
    | succ m ih =>
      intro hm
      obtain ⟨l1, t8, t10, e1⟩ := ih (by omega)
      refine ⟨fd1_le l1, _, _, e1.trans (m_fbody (by omega) l1)⟩
  obtain ⟨l1, t8, t10, e1⟩ := key 24 (Nat.le_refl _)
  rw [e1]
  refine w176_8.trans ?_
  simp (discharger := omega) only [↓w176_0, ↓w176_1, ↓w176_2, ↓w176_5, ↓w176_6, ↓w176_10, ↓w176_12, ↓w176_15, ↓w176_17, ↓w176_19, ↓w176_22, ↓w176_23, ↓w176_26, ↓w176_28, ↓w176_30, ↓w176_33, ↓w176_34, ↓w176_37, ↓w176_39, ↓w176_41, ↓w176_43, ↓w176_45, ↓w176_47, ↓w176_49, ↓w176_51, ↓w176_52, ↓w176_53, ↓w176_54, ↓w176_55, ↓w176_58, ↓w176_59, ↓w176_60, ↓w176_62, ↓w176_63, ↓w176_66, ↓w176_69, ↓w176_72, ↓w176_74, ↓w176_76, ↓w176_79, ↓w176_81, ↓w176_83, ↓w176_86, ↓w176_88, ↓w176_90, ↓w176_93, ↓w176_94, ↓w176_97, ↓w176_98, ↓w176_101, ↓w176_103, ↓w176_104, ↓w176_105, ↓w176_106, ↓w176_109, ↓w176_110, ↓w176_111, ↓w176_114, ↓w176_117, ↓w176_120, ↓w176_121, ↓w176_124, rc420, g420_0, p420_0, g420_1, p420_1, g420_2, g420_3, p420_3, g420_4, p420_4, g420_5, p420_5, g420_6, p420_6, g420_7, p420_7, g420_8, p420_8, g420_9, p420_9, g420_10, g420_11, g420_12, g420_13, g420_14, g420_15, g420_16, g420_17, g420_18, g420_19, p420_19, g420_20, g420_21, g420_22, g420_23, g420_24, g420_25, g420_26, g420_27, g420_28, g420_29, g420_30, g420_31, g420_32, p420_32, g420_33, g420_34, g420_35, g420_36, g420_37, g420_38, g420_39, g420_40, g420_41, g420_42, g420_43, g420_44, g420_45, g420_46, g420_47, p420_47, g420_48, g420_49, p420_49, gi421, si421, pm_eq, pm_ne, st_pm, st_pmne, rd1, rd2, rd3, rd4, rd5, rd6, rd2s, rd3s, rd4s, rd5s, rd7, rd8, rd9, rd10, rd11, rd0, rdc, wr1, wr2, wr3, wr4, wr5, wr6, wr2s, wr3s, wr4s, wr5s, wr7, wr8, wr9, wr10, wr11, wr0, wrc, st_ne, st_eq, st_st, tpM420, upd_eq, mul8, mul8', mul4, mul4', nI_add, inT, nclN, ltT, ltF, leT, leF, eqT, eqF, nzF, m1F, m1T, shr, shg, bI0, bI1, bo_bI, bo_1, bo_0, eq10, eq00, frT1, frT2, frT3, fit0, fit1, fit2, fit3, true_and, and_true, ↓reduceIte, Nat.reduceAdd, Nat.reduceMul, and_self, not_false_eq_true, not_true_eq_false, Nat.zero_add, Nat.add_zero]
end G0
