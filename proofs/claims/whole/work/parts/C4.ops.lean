/-! THE CLASS'S READER: s = (at which token, the fault) -/
abbrev Rs : Type := Nat × Nat
def wr (g : Nat → Nat) (n k : Nat) (s : Rs) : Rs := if s.2 = 0 then (s.1, k + 16 * bg g n s.1) else s
def ad (g : Nat → Nat) (n : Nat) (s : Rs) : Rs := if s.2 = 0 ∧ kd g n s.1 ≠ 0 then (s.1 + 1, 0) else s
def isSgn (g : Nat → Nat) (n c i : Nat) : Bool := decide (kd g n i = 3) && decide (g (bg g n i) = c)
def wSo (x : Nat) : Int32 := (wdv x).2.1
def wNu (x : Nat) : Int32 := (wdv x).2.2
def isNm (g : Nat → Nat) (n i : Nat) : Bool := decide (kd g n i = 1) && (decide (wSo (wd g n i) = nI 3) || decide (wSo (wd g n i) = nI 4))
def tkS (g : Nat → Nat) (n c : Nat) (s : Rs) : Rs := ad g n (if isSgn g n c s.1 = true then s else wr g n 1 s)
def tkW (g : Nat → Nat) (n w : Nat) (s : Rs) : Rs := ad g n (if wd g n s.1 = w then s else wr g n 1 s)
def tkN (g : Nat → Nat) (n lo hi : Nat) (s : Rs) : Rs := ad g n (if kd g n s.1 = 2 then (if lo ≤ vl g n s.1 ∧ vl g n s.1 < hi then s else wr g n 4 s) else wr g n 1 s)
def tkK (g : Nat → Nat) (n : Nat) (s : Rs) : Rs := ad g n (if wSo (wd g n s.1) = nI 2 then s else wr g n 1 s)
def tkNN (g : Nat → Nat) (n : Nat) (b : Bool) (s : Rs) : Rs := ad g n (if isNm g n s.1 = true then (if b = true then wr g n 3 s else s) else wr g n 1 s)
def tkNa (g : Nat → Nat) (n : Nat) (b : Bool) (s : Rs) : Rs := ad g n (if isNm g n s.1 = true then (if b = true then s else wr g n 2 s) else wr g n 1 s)
def rd (I : Mi) (s : Rs) : Mi := st I 72 (upd (upd (I 72) 3 (nI s.1)) 5 (nI s.2))
def rr (R : Mr) (g : Nat → Nat) (n i : Nat) : Mr := st R 72 (va_up (R 72) 4 (some (wd g n i)))
def okRs (T : Nat) (s : Rs) : Prop := s.1 ≤ T ∧ s.2 < 100000
section G4
variable {L : Nat} {xs : Nat → Int32} {d : Nat} {P : Option Value → Hp → Prop} {I : Mi} {J : Mj} {R : Mr} {Z : Mz} {c k n i p w b m x T lo hi : Nat} {g : Nat → Nat} {y : Int64} {s : Rs} {φ : Nat → Int32} {bb : Bool}
theorem wd_lt : wd g n i < 30 := wdB_lt
theorem wd_29 (h : kd g n i ≠ 1) : wd g n i = 29 := if_neg h
theorem rd72 : rd I s 72 = upd (upd (I 72) 3 (nI s.1)) 5 (nI s.2) := st_eq
theorem rd72_3 : rd I s 72 3 = nI s.1 := by rw [rd72, upd_ne (by decide), upd_eq]
theorem rd72_5 : rd I s 72 5 = nI s.2 := by rw [rd72, upd_eq]
theorem rd72_2 : rd I s 72 2 = I 72 2 := by rw [rd72, upd_ne (by decide), upd_ne (by decide)]
theorem rdo {a : Nat} (h : a ≠ 72) : rd I s a = I a := st_ne h
theorem rd_st {a : Nat} (h : a ≠ 72) : st (rd I s) a φ = rd (st I a φ) s := by
  unfold rd; rw [st_cm (a := 72) (b := a) (fun z => h z.symm), st_ne (fun z => h z.symm)]
theorem rd_w5 {f : Nat} : st (rd I s) 72 (upd (rd I s 72) 5 (nI f)) = rd I (s.1, f) := by
  rw [rd72]; unfold rd; rw [st_st, upd_upd]
theorem rd_w3 : st (rd I s) 72 (upd (rd I s 72) 3 (nI i)) = rd I (i, s.2) := by
  rw [rd72]; unfold rd; rw [st_st]
  congr 1
  funext q; unfold upd
  by_cases h3 : q = 3
  · subst h3; rfl
  · by_cases h5 : q = 5
    · subst h5; rfl
    · simp [h3, h5]
theorem rd_w2 {v : Int32} : st (rd I s) 72 (upd (rd I s 72) 2 v) = rd (st I 72 (upd (I 72) 2 v)) s := by
  rw [rd72]; unfold rd; rw [st_st, st_st, st_eq]
  congr 1
  funext q; unfold upd
  by_cases h3 : q = 3
  · subst h3; rfl
  · by_cases h5 : q = 5
    · subst h5; rfl
    · simp [h3, h5]
theorem rr72 : rr R g n i 72 4 = some (wd g n i) := by unfold rr; rw [st_eq, va_up_self]
theorem rro {a : Nat} (h : a ≠ 72) : rr R g n i a = R a := st_ne h
theorem rr_w : st (rr R g n i) 72 (va_up (rr R g n i 72) 4 (some (wd g n k))) = rr R g n k := by
  unfold rr; rw [st_st, st_eq]
  congr 1
  funext q; unfold va_up; split <;> rfl
theorem cm_4 (hk : k ≤ 4) : (nI (cmk k) = nI 4) = (k = 3) := by
  refine propext ?_
  have h : ∀ k, k < 5 → (nI (cmk k) = nI 4 ↔ k = 3) := by decide +kernel
  exact h k (by omega)
theorem cm_2 (hk : k ≤ 4) : (nI (cmk k) = nI 2) = (k = 2) := by
  refine propext ?_
  have h : ∀ k, k < 5 → (nI (cmk k) = nI 2 ↔ k = 2) := by decide +kernel
  exact h k (by omega)
theorem cm_3 (hk : k ≤ 4) : (nI (cmk k) = nI 3) = (k = 1) := by
  refine propext ?_
  have h : ∀ k, k < 5 → (nI (cmk k) = nI 3 ↔ k = 1) := by decide +kernel
  exact h k (by omega)
theorem cm_0 (hk : k ≤ 4) : (nI (cmk k) = nI 0) = (k = 0) := by
  refine propext ?_
  have h : ∀ k, k < 5 → (nI (cmk k) = nI 0 ↔ k = 0) := by decide +kernel
  exact h k (by omega)
theorem cmT4 (h : k = 3) : (nI (cmk k) = nI 4) = True := by subst h; decide
theorem cmF4 (hk : k ≤ 4) (h : ¬ k = 3) : (nI (cmk k) = nI 4) = False := (cm_4 hk).trans (eq_false h)
theorem cmT3 (h : k = 1) : (nI (cmk k) = nI 3) = True := by subst h; decide
theorem cmF3 (hk : k ≤ 4) (h : ¬ k = 1) : (nI (cmk k) = nI 3) = False := (cm_3 hk).trans (eq_false h)
theorem cmT2 (h : k = 2) : (nI (cmk k) = nI 2) = True := by subst h; decide
theorem cmF2 (hk : k ≤ 4) (h : ¬ k = 2) : (nI (cmk k) = nI 2) = False := (cm_2 hk).trans (eq_false h)
theorem cmT0 (h : k = 0) : (nI (cmk k) = nI 0) = True := by subst h; decide
theorem cmF0 (hk : k ≤ 4) (h : ¬ k = 0) : (nI (cmk k) = nI 0) = False := (cm_0 hk).trans (eq_false h)
theorem kdB_4 : kdB g n b ≤ 4 := by
  unfold kdB
  split
  · decide
  · split
    · split <;> decide
    · split
      · split <;> decide
      · split <;> decide
theorem kd_4 : kd g n i ≤ 4 := kdB_4
theorem cutT_lt (hT : cutT I J R g n T) (hi : i ≤ T) : kd g n i ≠ 0 ↔ i < T := by
  constructor
  · intro h
    by_cases e : i = T
    · subst e; exact absurd hT.2.1 h
    · omega
  · intro h; exact hT.1 i h
theorem cutT_T (hT : cutT I J R g n T) : T ≤ n := Nat.le_trans (bg_ge T hT.1) bg_le
theorem ad_ok (hT : cutT I J R g n T) (hs : okRs T s) : okRs T (ad g n s) := by
  unfold ad
  split
  · rename_i h; exact ⟨(cutT_lt hT hs.1).mp h.2, by show 0 < 100000; omega⟩
  · exact hs
theorem wr_ok (hn : n ≤ 1000) (hk : k ≤ 5) (hs : okRs T s) : okRs T (wr g n k s) := by
  unfold wr
  split
  · have := bg_le (g := g) (n := n) (i := s.1)
    exact ⟨hs.1, by show k + 16 * bg g n s.1 < 100000; omega⟩
  · exact hs
theorem wr_1 : (wr g n k s).1 = s.1 := by unfold wr; split <;> rfl
theorem ite_ok {q : Prop} [Decidable q] {a b : Rs} (ha : okRs T a) (hb : okRs T b) : okRs T (if q then a else b) := by split <;> assumption
theorem ite_1 {q : Prop} [Decidable q] {a b : Rs} (ha : a.1 = i) (hb : b.1 = i) : (if q then a else b).1 = i := by split <;> assumption
theorem nz (hk : k < 2147483648) : (nI k = nI 0) = (k = 0) := propext (nI_eq hk (by decide))
theorem mul16 : nI 16 * nI k = nI (16 * k) := pk_mul _ _
theorem k_wrong (hT : cutT I J R g n T) (hn : n ≤ 1000) (hs : okRs T s) (hk : k ≤ 5) : Wp L xs d 47 0 [some (.ref (72)), some (.int (nI k))] [] (mk (rd I s) J (rr R g n s.1) Z) P = P none (mk (rd I (wr g n k s)) J (rr R g n (wr g n k s).1) Z) := by
  have hTn := cutT_T hT
  obtain ⟨h1, h2⟩ := hs
  have h68 : I 68 s.1 = nI (bg g n s.1) := (hT.2.2.1 s.1 h1).2.1
  rw [wr_1]
  unfold wr
  by_cases hf : s.2 = 0
  · rw [if_pos hf]
    simp (discharger := omega) only [↓w47_0, ↓w47_1, ↓w47_4, ↓w47_7, ↓w47_8, ↓w47_9, ↓w47_11, ↓w47_12, ↓w47_15, ↓w47_18, ↓w47_19, ↓w47_22, ↓w47_23, ↓w47_24, ↓w47_25, ↓w47_28, rc72, g72_0, g72_1, g72_2, p72_2, g72_3, p72_3, g72_4, p72_4, g72_5, p72_5, rc65, g65_0, g65_1, p65_1, g65_2, g65_3, g65_4, g65_5, g65_6, g65_7, p65_7, gi68, si68, rd72_5, rd72_3, rdo, h68, rd_w5, mul16, mul8, mul8', mul4, mul4', nI_add, inT, nclN, ltT, ltF, leT, leF, eqT, eqF, nzF, m1F, m1T, shr, shg, bI0, bI1, bo_bI, bo_1, bo_0, eq10, eq00, frT1, frT2, frT3, fit0, fit1, fit2, fit3, true_and, and_true, ↓reduceIte, Nat.reduceAdd, Nat.reduceMul, and_self, not_false_eq_true, not_true_eq_false, Nat.zero_add, Nat.add_zero]
  · rw [if_neg hf]
    simp (discharger := omega) only [↓w47_0, ↓w47_1, ↓w47_4, ↓w47_7, ↓w47_8, ↓w47_9, ↓w47_11, ↓w47_12, ↓w47_15, ↓w47_18, ↓w47_19, ↓w47_22, ↓w47_23, ↓w47_24, ↓w47_25, ↓w47_28, rc72, g72_0, g72_1, g72_2, p72_2, g72_3, p72_3, g72_4, p72_4, g72_5, p72_5, rc65, g65_0, g65_1, p65_1, g65_2, g65_3, g65_4, g65_5, g65_6, g65_7, p65_7, gi68, si68, rd72_5, rd72_3, mul8, mul8', mul4, mul4', nI_add, inT, nclN, ltT, ltF, leT, leF, eqT, eqF, nzF, m1F, m1T, shr, shg, bI0, bI1, bo_bI, bo_1, bo_0, eq10, eq00, frT1, frT2, frT3, fit0, fit1, fit2, fit3, true_and, and_true, ↓reduceIte, Nat.reduceAdd, Nat.reduceMul, and_self, not_false_eq_true, not_true_eq_false, Nat.zero_add, Nat.add_zero]
theorem gr71 {I : Mi} {J : Mj} {R : Mr} {K : Nat → Prop} (hk : k ≤ 1000) (h : R 71 k = some w) : gr (mk I J R Z) 71 (nI k) K = K w := by
  rw [grM, ip_inN (by omega) (by decide), nI_clamp (by omega), h]; simp
theorem k_advance (hT : cutT I J R g n T) (hn : n ≤ 1000) (hs : okRs T s) : Wp L xs d 48 0 [some (.ref (72))] [] (mk (rd I s) J (rr R g n s.1) Z) P = P none (mk (rd I (ad g n s)) J (rr R g n (ad g n s).1) Z) := by
  have hTn := cutT_T hT
  obtain ⟨h1, h2⟩ := hs
  have h7 : I 65 7 = nI (T + 1) := hT.2.2.2
  have hlt := cutT_lt hT h1
  unfold ad
  by_cases hf : s.2 = 0
  · by_cases hk : kd g n s.1 = 0
    · rw [if_neg (fun z => z.2 hk)]
      have : ¬ s.1 < T := fun z => hlt.mpr z hk
      simp (discharger := omega) only [↓w48_0, ↓w48_1, ↓w48_4, ↓w48_7, ↓w48_8, ↓w48_11, ↓w48_12, ↓w48_13, ↓w48_14, ↓w48_17, ↓w48_20, ↓w48_23, ↓w48_24, ↓w48_25, ↓w48_28, ↓w48_29, ↓w48_30, ↓w48_33, ↓w48_34, ↓w48_35, ↓w48_38, ↓w48_41, ↓w48_42, ↓w48_45, ↓w48_46, ↓w48_49, rc72, g72_0, g72_1, g72_2, p72_2, g72_3, p72_3, g72_4, p72_4, g72_5, p72_5, rc65, g65_0, g65_1, p65_1, g65_2, g65_3, g65_4, g65_5, g65_6, g65_7, p65_7, rd72_5, rd72_3, rdo, h7, mul8, mul8', mul4, mul4', nI_add, inT, nclN, ltT, ltF, leT, leF, eqT, eqF, nzF, m1F, m1T, shr, shg, bI0, bI1, bo_bI, bo_1, bo_0, eq10, eq00, frT1, frT2, frT3, fit0, fit1, fit2, fit3, true_and, and_true, ↓reduceIte, Nat.reduceAdd, Nat.reduceMul, and_self, not_false_eq_true, not_true_eq_false, Nat.zero_add, Nat.add_zero]
    · rw [if_pos ⟨hf, hk⟩]
      have h3 : s.1 < T := hlt.mp hk
      have hw := fun K => gr71 (I := rd I (s.1 + 1, s.2)) (J := J) (R := rr R g n s.1) (Z := Z) (K := K) (k := s.1 + 1) (by omega) (by rw [rro (by decide)]; exact (hT.2.2.1 (s.1 + 1) (by omega)).2.2.1)
      simp (discharger := omega) only [↓w48_0, ↓w48_1, ↓w48_4, ↓w48_7, ↓w48_8, ↓w48_11, ↓w48_12, ↓w48_13, ↓w48_14, ↓w48_17, ↓w48_20, ↓w48_23, ↓w48_24, ↓w48_25, ↓w48_28, ↓w48_29, ↓w48_30, ↓w48_33, ↓w48_34, ↓w48_35, ↓w48_38, ↓w48_41, ↓w48_42, ↓w48_45, ↓w48_46, ↓w48_49, rc72, g72_0, g72_1, g72_2, p72_2, g72_3, p72_3, g72_4, p72_4, g72_5, p72_5, rc65, g65_0, g65_1, p65_1, g65_2, g65_3, g65_4, g65_5, g65_6, g65_7, p65_7, rd72_5, rd72_3, rdo, h7, rd_w3, ↓hw, mul8, mul8', mul4, mul4', nI_add, inT, nclN, ltT, ltF, leT, leF, eqT, eqF, nzF, m1F, m1T, shr, shg, bI0, bI1, bo_bI, bo_1, bo_0, eq10, eq00, frT1, frT2, frT3, fit0, fit1, fit2, fit3, true_and, and_true, ↓reduceIte, Nat.reduceAdd, Nat.reduceMul, and_self, not_false_eq_true, not_true_eq_false, Nat.zero_add, Nat.add_zero]
      rw [show rd I (s.1 + 1, s.2) = rd I (s.1 + 1, 0) by rw [hf]]
      exact congrArg (fun r => P none (mk (rd I (s.1 + 1, 0)) J r Z)) rr_w
  · rw [if_neg (fun z => hf z.1)]
    simp (discharger := omega) only [↓w48_0, ↓w48_1, ↓w48_4, ↓w48_7, ↓w48_8, ↓w48_11, ↓w48_12, ↓w48_13, ↓w48_14, ↓w48_17, ↓w48_20, ↓w48_23, ↓w48_24, ↓w48_25, ↓w48_28, ↓w48_29, ↓w48_30, ↓w48_33, ↓w48_34, ↓w48_35, ↓w48_38, ↓w48_41, ↓w48_42, ↓w48_45, ↓w48_46, ↓w48_49, rc72, g72_0, g72_1, g72_2, p72_2, g72_3, p72_3, g72_4, p72_4, g72_5, p72_5, rc65, g65_0, g65_1, p65_1, g65_2, g65_3, g65_4, g65_5, g65_6, g65_7, p65_7, rd72_5, rd72_3, mul8, mul8', mul4, mul4', nI_add, inT, nclN, ltT, ltF, leT, leF, eqT, eqF, nzF, m1F, m1T, shr, shg, bI0, bI1, bo_bI, bo_1, bo_0, eq10, eq00, frT1, frT2, frT3, fit0, fit1, fit2, fit3, true_and, and_true, ↓reduceIte, Nat.reduceAdd, Nat.reduceMul, and_self, not_false_eq_true, not_true_eq_false, Nat.zero_add, Nat.add_zero]
theorem k_isSign (hT : cutT I J R g n T) (hn : n ≤ 1000) (hs : okRs T s) (hc : c < 256) (hg : ∀ k, k < n → g k < 256) : Wp L xs d 46 0 [some (.ref (72)), some (.int (nI c))] [] (mk (rd I s) J (rr R g n s.1) Z) P = P (some (.int (bI (isSgn g n c s.1)))) (mk (rd I s) J (rr R g n s.1) Z) := by
  have hTn := cutT_T hT
  obtain ⟨h1, h2⟩ := hs
  obtain ⟨h67, -, -, -, h69, -⟩ := hT.2.2.1 s.1 h1
  have hk4 := kd_4 (g := g) (n := n) (i := s.1)
  change I 67 s.1 = nI (cmk (kd g n s.1)) at h67
  change kd g n s.1 = 3 → _ at h69
  unfold isSgn
  by_cases h3 : kd g n s.1 = 3
  · have hlt : bg g n s.1 < n := bg_lt (by rw [h3]; decide)
    have hgb := hg _ hlt
    have e : (nI (g (bg g n s.1)) = nI c) = (g (bg g n s.1) = c) := propext (nI_eq (by omega) (by omega))
    simp (discharger := omega) only [↓w46_0, ↓w46_1, ↓w46_4, ↓w46_7, ↓w46_8, ↓w46_11, ↓w46_12, ↓w46_13, ↓w46_16, ↓w46_17, ↓w46_20, ↓w46_23, ↓w46_24, ↓w46_27, ↓w46_28, ↓w46_29, ↓w46_32, ↓w46_33, ↓w46_36, ↓w46_37, rc72, g72_0, g72_1, g72_2, p72_2, g72_3, p72_3, g72_4, p72_4, g72_5, p72_5, rc65, g65_0, g65_1, p65_1, g65_2, g65_3, g65_4, g65_5, g65_6, g65_7, p65_7, gi67, si67, gi69, si69, rd72_3, rdo, h67, h69 h3, cmT4 h3, e, mul8, mul8', mul4, mul4', nI_add, inT, nclN, ltT, ltF, leT, leF, eqT, eqF, nzF, m1F, m1T, shr, shg, bI0, bI1, bo_bI, bo_1, bo_0, eq10, eq00, frT1, frT2, frT3, fit0, fit1, fit2, fit3, true_and, and_true, ↓reduceIte, Nat.reduceAdd, Nat.reduceMul, and_self, not_false_eq_true, not_true_eq_false, Nat.zero_add, Nat.add_zero]
    by_cases hq : g (bg g n s.1) = c
    · rw [if_pos hq]; simp [hq, h3, bI_t]
    · rw [if_neg hq]; simp [hq, h3, bI_f]
  · simp (discharger := omega) only [↓w46_0, ↓w46_1, ↓w46_4, ↓w46_7, ↓w46_8, ↓w46_11, ↓w46_12, ↓w46_13, ↓w46_16, ↓w46_17, ↓w46_20, ↓w46_23, ↓w46_24, ↓w46_27, ↓w46_28, ↓w46_29, ↓w46_32, ↓w46_33, ↓w46_36, ↓w46_37, rc72, g72_0, g72_1, g72_2, p72_2, g72_3, p72_3, g72_4, p72_4, g72_5, p72_5, rc65, g65_0, g65_1, p65_1, g65_2, g65_3, g65_4, g65_5, g65_6, g65_7, p65_7, gi67, si67, gi69, si69, rd72_3, rdo, h67, cmF4 hk4 h3, mul8, mul8', mul4, mul4', nI_add, inT, nclN, ltT, ltF, leT, leF, eqT, eqF, nzF, m1F, m1T, shr, shg, bI0, bI1, bo_bI, bo_1, bo_0, eq10, eq00, frT1, frT2, frT3, fit0, fit1, fit2, fit3, true_and, and_true, ↓reduceIte, Nat.reduceAdd, Nat.reduceMul, and_self, not_false_eq_true, not_true_eq_false, Nat.zero_add, Nat.add_zero]
    simp [h3, bI_f]
theorem k_isName (hT : cutT I J R g n T) (hn : n ≤ 1000) (hs : okRs T s) : Wp L xs d 41 0 [some (.ref (72))] [] (mk (rd I s) J (rr R g n s.1) Z) P = P (some (.int (bI (isNm g n s.1)))) (mk (rd I s) J (rr R g n s.1) Z) := by
  have hTn := cutT_T hT
  obtain ⟨h1, h2⟩ := hs
  have h67 : I 67 s.1 = nI (cmk (kd g n s.1)) := (hT.2.2.1 s.1 h1).1
  have hk4 := kd_4 (g := g) (n := n) (i := s.1)
  have hw := wd_lt (g := g) (n := n) (i := s.1)
  have gd : (rr R g n s.1 72 4).getD 29 = wd g n s.1 := by rw [rr72]; rfl
  have r20 := fun l0 P => w41_20 (L := L) (xs := xs) (d := d) (h := mk (rd I s) J (rr R g n s.1) Z) (P := P) (l0 := l0) (wdA hw) hw
  have r31 := fun l0 P => w41_31 (L := L) (xs := xs) (d := d) (h := mk (rd I s) J (rr R g n s.1) Z) (P := P) (l0 := l0) (wdA hw) hw
  unfold isNm wSo
  by_cases h3 : kd g n s.1 = 1
  · simp (discharger := omega) only [↓w41_0, ↓w41_1, ↓w41_4, ↓w41_7, ↓w41_8, ↓w41_11, ↓w41_12, ↓w41_13, ↓w41_16, ↓w41_17, ↓w41_23, ↓w41_24, ↓w41_27, ↓w41_28, ↓w41_34, ↓w41_35, ↓w41_38, ↓w41_39, ↓w41_42, ↓w41_43, rc72, g72_0, g72_1, g72_2, p72_2, g72_3, p72_3, g72_4, p72_4, g72_5, p72_5, rc65, g65_0, g65_1, p65_1, g65_2, g65_3, g65_4, g65_5, g65_6, g65_7, p65_7, gi67, si67, rd72_3, rdo, h67, cmT3 h3, gd, ↓r20, ↓r31, wv1, mul8, mul8', mul4, mul4', nI_add, inT, nclN, ltT, ltF, leT, leF, eqT, eqF, nzF, m1F, m1T, shr, shg, bI0, bI1, bo_bI, bo_1, bo_0, eq10, eq00, frT1, frT2, frT3, fit0, fit1, fit2, fit3, true_and, and_true, ↓reduceIte, Nat.reduceAdd, Nat.reduceMul, and_self, not_false_eq_true, not_true_eq_false, Nat.zero_add, Nat.add_zero]
    by_cases q3 : (wdv (wd g n s.1)).2.1 = nI 3
    · rw [if_pos q3]; simp [q3, h3, bI_t]
    · rw [if_neg q3]
      by_cases q4 : (wdv (wd g n s.1)).2.1 = nI 4
      · rw [if_pos q4]; simp [q4, h3, bI_t]
      · rw [if_neg q4]; simp [q3, q4, h3, bI_f]
  · simp (discharger := omega) only [↓w41_0, ↓w41_1, ↓w41_4, ↓w41_7, ↓w41_8, ↓w41_11, ↓w41_12, ↓w41_13, ↓w41_16, ↓w41_17, ↓w41_23, ↓w41_24, ↓w41_27, ↓w41_28, ↓w41_34, ↓w41_35, ↓w41_38, ↓w41_39, ↓w41_42, ↓w41_43, rc72, g72_0, g72_1, g72_2, p72_2, g72_3, p72_3, g72_4, p72_4, g72_5, p72_5, rc65, g65_0, g65_1, p65_1, g65_2, g65_3, g65_4, g65_5, g65_6, g65_7, p65_7, gi67, si67, rd72_3, rdo, h67, cmF3 hk4 h3, mul8, mul8', mul4, mul4', nI_add, inT, nclN, ltT, ltF, leT, leF, eqT, eqF, nzF, m1F, m1T, shr, shg, bI0, bI1, bo_bI, bo_1, bo_0, eq10, eq00, frT1, frT2, frT3, fit0, fit1, fit2, fit3, true_and, and_true, ↓reduceIte, Nat.reduceAdd, Nat.reduceMul, and_self, not_false_eq_true, not_true_eq_false, Nat.zero_add, Nat.add_zero]
    simp [h3, bI_f]
theorem k_takeSign (hT : cutT I J R g n T) (hn : n ≤ 1000) (hs : okRs T s) (hc : c < 256) (hg : ∀ k, k < n → g k < 256) : Wp L xs (d+1) 44 0 [some (.ref (72)), some (.int (nI c))] [] (mk (rd I s) J (rr R g n s.1) Z) P = P none (mk (rd I (tkS g n c s)) J (rr R g n (tkS g n c s).1) Z) := by
  have i1 := fun P => k_isSign (L := L) (xs := xs) (d := d) (P := P) (Z := Z) hT hn hs hc hg
  have i2 := fun P => k_wrong (L := L) (xs := xs) (d := d) (P := P) (Z := Z) (k := 1) hT hn hs (by decide)
  have i3 := fun P => k_advance (L := L) (xs := xs) (d := d) (P := P) (Z := Z) hT hn (wr_ok (g := g) (k := 1) hn (by decide) hs)
  have i4 := fun P => k_advance (L := L) (xs := xs) (d := d) (P := P) (Z := Z) hT hn hs
  unfold tkS
  cases hq : isSgn g n c s.1
  · rw [if_neg (by decide)]
    simp (discharger := omega) only [↓w44_0, ↓w44_1, ↓w44_2, ↓w44_5, ↓w44_8, ↓w44_9, ↓w44_10, ↓w44_13, ↓w44_14, ↓w44_17, rc72, g72_0, g72_1, g72_2, p72_2, g72_3, p72_3, g72_4, p72_4, g72_5, p72_5, ↓i1, ↓i2, ↓i3, hq, bI_f, ↓kc_i, ↓kc_l, ↓kc_r, ↓kc_n, mul8, mul8', mul4, mul4', nI_add, inT, nclN, ltT, ltF, leT, leF, eqT, eqF, nzF, m1F, m1T, shr, shg, bI0, bI1, bo_bI, bo_1, bo_0, eq10, eq00, frT1, frT2, frT3, fit0, fit1, fit2, fit3, true_and, and_true, ↓reduceIte, Nat.reduceAdd, Nat.reduceMul, and_self, not_false_eq_true, not_true_eq_false, Nat.zero_add, Nat.add_zero]
  · rw [if_pos rfl]
    simp (discharger := omega) only [↓w44_0, ↓w44_1, ↓w44_2, ↓w44_5, ↓w44_8, ↓w44_9, ↓w44_10, ↓w44_13, ↓w44_14, ↓w44_17, rc72, g72_0, g72_1, g72_2, p72_2, g72_3, p72_3, g72_4, p72_4, g72_5, p72_5, ↓i1, ↓i4, hq, bI_t, ↓kc_i, ↓kc_l, ↓kc_r, ↓kc_n, mul8, mul8', mul4, mul4', nI_add, inT, nclN, ltT, ltF, leT, leF, eqT, eqF, nzF, m1F, m1T, shr, shg, bI0, bI1, bo_bI, bo_1, bo_0, eq10, eq00, frT1, frT2, frT3, fit0, fit1, fit2, fit3, true_and, and_true, ↓reduceIte, Nat.reduceAdd, Nat.reduceMul, and_self, not_false_eq_true, not_true_eq_false, Nat.zero_add, Nat.add_zero]
theorem k_takeWord (hT : cutT I J R g n T) (hn : n ≤ 1000) (hs : okRs T s) (hw : w < 30) : Wp L xs (d+1) 43 0 [some (.ref (72)), some (.ref (w))] [] (mk (rd I s) J (rr R g n s.1) Z) P = P none (mk (rd I (tkW g n w s)) J (rr R g n (tkW g n w s).1) Z) := by
  have i2 := fun P => k_wrong (L := L) (xs := xs) (d := d) (P := P) (Z := Z) (k := 1) hT hn hs (by decide)
  have i3 := fun P => k_advance (L := L) (xs := xs) (d := d) (P := P) (Z := Z) hT hn (wr_ok (g := g) (k := 1) hn (by decide) hs)
  have i4 := fun P => k_advance (L := L) (xs := xs) (d := d) (P := P) (Z := Z) hT hn hs
  have hw2 := wd_lt (g := g) (n := n) (i := s.1)
  have gd : (rr R g n s.1 72 4).getD 29 = wd g n s.1 := by rw [rr72]; rfl
  unfold tkW
  by_cases hq : wd g n s.1 = w
  · rw [if_pos hq]
    simp (discharger := omega) only [↓w43_0, ↓w43_1, ↓w43_4, ↓w43_5, ↓w43_8, ↓w43_9, ↓w43_10, ↓w43_13, ↓w43_14, ↓w43_17, rc72, g72_0, g72_1, g72_2, p72_2, g72_3, p72_3, g72_4, p72_4, g72_5, p72_5, gd, ↓i4, hq, ↓kc_i, ↓kc_l, ↓kc_r, ↓kc_n, mul8, mul8', mul4, mul4', nI_add, inT, nclN, ltT, ltF, leT, leF, eqT, eqF, nzF, m1F, m1T, shr, shg, bI0, bI1, bo_bI, bo_1, bo_0, eq10, eq00, frT1, frT2, frT3, fit0, fit1, fit2, fit3, true_and, and_true, ↓reduceIte, Nat.reduceAdd, Nat.reduceMul, and_self, not_false_eq_true, not_true_eq_false, Nat.zero_add, Nat.add_zero]
  · rw [if_neg hq]
    simp (discharger := omega) only [↓w43_0, ↓w43_1, ↓w43_4, ↓w43_5, ↓w43_8, ↓w43_9, ↓w43_10, ↓w43_13, ↓w43_14, ↓w43_17, rc72, g72_0, g72_1, g72_2, p72_2, g72_3, p72_3, g72_4, p72_4, g72_5, p72_5, gd, ↓i2, ↓i3, hq, ↓kc_i, ↓kc_l, ↓kc_r, ↓kc_n, mul8, mul8', mul4, mul4', nI_add, inT, nclN, ltT, ltF, leT, leF, eqT, eqF, nzF, m1F, m1T, shr, shg, bI0, bI1, bo_bI, bo_1, bo_0, eq10, eq00, frT1, frT2, frT3, fit0, fit1, fit2, fit3, true_and, and_true, ↓reduceIte, Nat.reduceAdd, Nat.reduceMul, and_self, not_false_eq_true, not_true_eq_false, Nat.zero_add, Nat.add_zero]
theorem k_takeKind (hT : cutT I J R g n T) (hn : n ≤ 1000) (hs : okRs T s) : Wp L xs (d+1) 42 0 [some (.ref (72)), none] [] (mk (rd I s) J (rr R g n s.1) Z) P = P (some (.int (wNu (wd g n s.1)))) (mk (rd I (tkK g n s)) J (rr R g n (tkK g n s).1) Z) := by
  have i2 := fun P => k_wrong (L := L) (xs := xs) (d := d) (P := P) (Z := Z) (k := 1) hT hn hs (by decide)
  have i3 := fun P => k_advance (L := L) (xs := xs) (d := d) (P := P) (Z := Z) hT hn (wr_ok (g := g) (k := 1) hn (by decide) hs)
  have i4 := fun P => k_advance (L := L) (xs := xs) (d := d) (P := P) (Z := Z) hT hn hs
  have hw := wd_lt (g := g) (n := n) (i := s.1)
  have gd : (rr R g n s.1 72 4).getD 29 = wd g n s.1 := by rw [rr72]; rfl
  have r4 := fun l0 l1 P => w42_4 (L := L) (xs := xs) (d := d + 1) (h := mk (rd I s) J (rr R g n s.1) Z) (P := P) (l0 := l0) (l1 := l1) (wdA hw) hw
  have r12 := fun l0 l1 P => w42_12 (L := L) (xs := xs) (d := d + 1) (h := mk (rd I s) J (rr R g n s.1) Z) (P := P) (l0 := l0) (l1 := l1) (wdA hw) hw
  unfold tkK wSo wNu
  by_cases hq : (wdv (wd g n s.1)).2.1 = nI 2
  · rw [if_pos hq]
    simp (discharger := omega) only [↓w42_0, ↓w42_1, ↓w42_7, ↓w42_8, ↓w42_9, ↓w42_15, ↓w42_16, ↓w42_19, ↓w42_20, ↓w42_21, ↓w42_24, ↓w42_25, ↓w42_28, ↓w42_29, rc72, g72_0, g72_1, g72_2, p72_2, g72_3, p72_3, g72_4, p72_4, g72_5, p72_5, gd, ↓r4, ↓r12, wv1, wv2, ↓i4, hq, ↓kc_i, ↓kc_l, ↓kc_r, ↓kc_n, mul8, mul8', mul4, mul4', nI_add, inT, nclN, ltT, ltF, leT, leF, eqT, eqF, nzF, m1F, m1T, shr, shg, bI0, bI1, bo_bI, bo_1, bo_0, eq10, eq00, frT1, frT2, frT3, fit0, fit1, fit2, fit3, true_and, and_true, ↓reduceIte, Nat.reduceAdd, Nat.reduceMul, and_self, not_false_eq_true, not_true_eq_false, Nat.zero_add, Nat.add_zero]
  · rw [if_neg hq]
    simp (discharger := omega) only [↓w42_0, ↓w42_1, ↓w42_7, ↓w42_8, ↓w42_9, ↓w42_15, ↓w42_16, ↓w42_19, ↓w42_20, ↓w42_21, ↓w42_24, ↓w42_25, ↓w42_28, ↓w42_29, rc72, g72_0, g72_1, g72_2, p72_2, g72_3, p72_3, g72_4, p72_4, g72_5, p72_5, gd, ↓r4, ↓r12, wv1, wv2, ↓i2, ↓i3, hq, ↓kc_i, ↓kc_l, ↓kc_r, ↓kc_n, mul8, mul8', mul4, mul4', nI_add, inT, nclN, ltT, ltF, leT, leF, eqT, eqF, nzF, m1F, m1T, shr, shg, bI0, bI1, bo_bI, bo_1, bo_0, eq10, eq00, frT1, frT2, frT3, fit0, fit1, fit2, fit3, true_and, and_true, ↓reduceIte, Nat.reduceAdd, Nat.reduceMul, and_self, not_false_eq_true, not_true_eq_false, Nat.zero_add, Nat.add_zero]
theorem hi_1 (hh : hi < 1000) (hx : x < 100000) : (nI x ≤ nI hi - nI 1) = (x < hi) := by
  refine propext ?_
  have e : (nI hi - nI 1).toInt = (hi : Int) - 1 := by
    by_cases h0 : hi = 0
    · subst h0; decide
    · rw [nI_dif (by omega), nI_toInt (by omega)]; omega
  rw [Int32.le_iff_toInt_le, e, nI_toInt (by omega)]
  omega
theorem k_takeNumber {v : Int32} (hT : cutT I J R g n T) (hn : n ≤ 1000) (hs : okRs T s) (hl : lo < 1000) (hh : hi < 1000) (hv : v = nI hi - nI 1) : Wp L xs (d+1) 45 0 [some (.ref (72)), some (.int (nI lo)), some (.int (v)), none] [] (mk (rd I s) J (rr R g n s.1) Z) P = P (some (.int (I 69 s.1))) (mk (rd I (tkN g n lo hi s)) J (rr R g n (tkN g n lo hi s).1) Z) := by
  subst hv
  have hTn := cutT_T hT
  have h1 := hs.1
  obtain ⟨h67, -, -, h69, -, -⟩ := hT.2.2.1 s.1 h1
  have hk4 := kd_4 (g := g) (n := n) (i := s.1)
  change I 67 s.1 = nI (cmk (kd g n s.1)) at h67
  change kd g n s.1 = 2 → I 69 s.1 = nI (vl g n s.1) at h69
  have i2 := fun P => k_wrong (L := L) (xs := xs) (d := d) (P := P) (Z := Z) (k := 1) hT hn hs (by decide)
  have i3 := fun P => k_advance (L := L) (xs := xs) (d := d) (P := P) (Z := Z) hT hn (wr_ok (g := g) (k := 1) hn (by decide) hs)
  have i4 := fun P => k_advance (L := L) (xs := xs) (d := d) (P := P) (Z := Z) hT hn hs
  have i5 := fun P => k_wrong (L := L) (xs := xs) (d := d) (P := P) (Z := Z) (k := 4) hT hn hs (by decide)
  have i6 := fun P => k_advance (L := L) (xs := xs) (d := d) (P := P) (Z := Z) hT hn (wr_ok (g := g) (k := 4) hn (by decide) hs)
  unfold tkN
  by_cases h3 : kd g n s.1 = 2
  · have hv := vl_lt h3
    have h69' := h69 h3
    have hle : (nI (vl g n s.1) ≤ nI hi - nI 1) = (vl g n s.1 < hi) := hi_1 hh (by omega)
    rw [if_pos h3]
    by_cases ha : vl g n s.1 < lo
    · rw [if_neg (by omega)]
      simp (discharger := omega) only [↓w45_0, ↓w45_1, ↓w45_4, ↓w45_7, ↓w45_8, ↓w45_11, ↓w45_12, ↓w45_13, ↓w45_14, ↓w45_17, ↓w45_20, ↓w45_21, ↓w45_24, ↓w45_25, ↓w45_26, ↓w45_29, ↓w45_30, ↓w45_31, ↓w45_34, ↓w45_37, ↓w45_38, ↓w45_39, ↓w45_42, ↓w45_43, ↓w45_44, ↓w45_47, ↓w45_48, ↓w45_49, ↓w45_52, ↓w45_53, ↓w45_56, ↓w45_57, rc72, g72_0, g72_1, g72_2, p72_2, g72_3, p72_3, g72_4, p72_4, g72_5, p72_5, rc65, g65_0, g65_1, p65_1, g65_2, g65_3, g65_4, g65_5, g65_6, g65_7, p65_7, gi67, si67, gi69, si69, rd72_3, rdo, h67, h69', cmT2 h3, ↓i5, ↓i6, ↓kc_i, ↓kc_l, ↓kc_r, ↓kc_n, mul8, mul8', mul4, mul4', nI_add, inT, nclN, ltT, ltF, leT, leF, eqT, eqF, nzF, m1F, m1T, shr, shg, bI0, bI1, bo_bI, bo_1, bo_0, eq10, eq00, frT1, frT2, frT3, fit0, fit1, fit2, fit3, true_and, and_true, ↓reduceIte, Nat.reduceAdd, Nat.reduceMul, and_self, not_false_eq_true, not_true_eq_false, Nat.zero_add, Nat.add_zero]
    · by_cases hb : vl g n s.1 < hi
      · rw [if_pos ⟨by omega, hb⟩]
        simp (discharger := omega) only [↓w45_0, ↓w45_1, ↓w45_4, ↓w45_7, ↓w45_8, ↓w45_11, ↓w45_12, ↓w45_13, ↓w45_14, ↓w45_17, ↓w45_20, ↓w45_21, ↓w45_24, ↓w45_25, ↓w45_26, ↓w45_29, ↓w45_30, ↓w45_31, ↓w45_34, ↓w45_37, ↓w45_38, ↓w45_39, ↓w45_42, ↓w45_43, ↓w45_44, ↓w45_47, ↓w45_48, ↓w45_49, ↓w45_52, ↓w45_53, ↓w45_56, ↓w45_57, rc72, g72_0, g72_1, g72_2, p72_2, g72_3, p72_3, g72_4, p72_4, g72_5, p72_5, rc65, g65_0, g65_1, p65_1, g65_2, g65_3, g65_4, g65_5, g65_6, g65_7, p65_7, gi67, si67, gi69, si69, rd72_3, rdo, h67, h69', cmT2 h3, hle, hb, ↓i4, ↓kc_i, ↓kc_l, ↓kc_r, ↓kc_n, mul8, mul8', mul4, mul4', nI_add, inT, nclN, ltT, ltF, leT, leF, eqT, eqF, nzF, m1F, m1T, shr, shg, bI0, bI1, bo_bI, bo_1, bo_0, eq10, eq00, frT1, frT2, frT3, fit0, fit1, fit2, fit3, true_and, and_true, ↓reduceIte, Nat.reduceAdd, Nat.reduceMul, and_self, not_false_eq_true, not_true_eq_false, Nat.zero_add, Nat.add_zero]
      · rw [if_neg (fun z => hb z.2)]
        simp (discharger := omega) only [↓w45_0, ↓w45_1, ↓w45_4, ↓w45_7, ↓w45_8, ↓w45_11, ↓w45_12, ↓w45_13, ↓w45_14, ↓w45_17, ↓w45_20, ↓w45_21, ↓w45_24, ↓w45_25, ↓w45_26, ↓w45_29, ↓w45_30, ↓w45_31, ↓w45_34, ↓w45_37, ↓w45_38, ↓w45_39, ↓w45_42, ↓w45_43, ↓w45_44, ↓w45_47, ↓w45_48, ↓w45_49, ↓w45_52, ↓w45_53, ↓w45_56, ↓w45_57, rc72, g72_0, g72_1, g72_2, p72_2, g72_3, p72_3, g72_4, p72_4, g72_5, p72_5, rc65, g65_0, g65_1, p65_1, g65_2, g65_3, g65_4, g65_5, g65_6, g65_7, p65_7, gi67, si67, gi69, si69, rd72_3, rdo, h67, h69', cmT2 h3, hle, hb, ↓i5, ↓i6, ↓kc_i, ↓kc_l, ↓kc_r, ↓kc_n, mul8, mul8', mul4, mul4', nI_add, inT, nclN, ltT, ltF, leT, leF, eqT, eqF, nzF, m1F, m1T, shr, shg, bI0, bI1, bo_bI, bo_1, bo_0, eq10, eq00, frT1, frT2, frT3, fit0, fit1, fit2, fit3, true_and, and_true, ↓reduceIte, Nat.reduceAdd, Nat.reduceMul, and_self, not_false_eq_true, not_true_eq_false, Nat.zero_add, Nat.add_zero]
  · rw [if_neg h3]
    simp (discharger := omega) only [↓w45_0, ↓w45_1, ↓w45_4, ↓w45_7, ↓w45_8, ↓w45_11, ↓w45_12, ↓w45_13, ↓w45_14, ↓w45_17, ↓w45_20, ↓w45_21, ↓w45_24, ↓w45_25, ↓w45_26, ↓w45_29, ↓w45_30, ↓w45_31, ↓w45_34, ↓w45_37, ↓w45_38, ↓w45_39, ↓w45_42, ↓w45_43, ↓w45_44, ↓w45_47, ↓w45_48, ↓w45_49, ↓w45_52, ↓w45_53, ↓w45_56, ↓w45_57, rc72, g72_0, g72_1, g72_2, p72_2, g72_3, p72_3, g72_4, p72_4, g72_5, p72_5, rc65, g65_0, g65_1, p65_1, g65_2, g65_3, g65_4, g65_5, g65_6, g65_7, p65_7, gi67, si67, gi69, si69, rd72_3, rdo, h67, cmF2 hk4 h3, ↓i2, ↓i3, ↓kc_i, ↓kc_l, ↓kc_r, ↓kc_n, mul8, mul8', mul4, mul4', nI_add, inT, nclN, ltT, ltF, leT, leF, eqT, eqF, nzF, m1F, m1T, shr, shg, bI0, bI1, bo_bI, bo_1, bo_0, eq10, eq00, frT1, frT2, frT3, fit0, fit1, fit2, fit3, true_and, and_true, ↓reduceIte, Nat.reduceAdd, Nat.reduceMul, and_self, not_false_eq_true, not_true_eq_false, Nat.zero_add, Nat.add_zero]
theorem tkS_ok (hT : cutT I J R g n T) (hn : n ≤ 1000) (hs : okRs T s) : okRs T (tkS g n c s) := ad_ok hT (ite_ok hs (wr_ok hn (by decide) hs))
theorem tkW_ok (hT : cutT I J R g n T) (hn : n ≤ 1000) (hs : okRs T s) : okRs T (tkW g n w s) := ad_ok hT (ite_ok hs (wr_ok hn (by decide) hs))
theorem tkK_ok (hT : cutT I J R g n T) (hn : n ≤ 1000) (hs : okRs T s) : okRs T (tkK g n s) := ad_ok hT (ite_ok hs (wr_ok hn (by decide) hs))
theorem tkN_ok (hT : cutT I J R g n T) (hn : n ≤ 1000) (hs : okRs T s) : okRs T (tkN g n lo hi s) := ad_ok hT (ite_ok (ite_ok hs (wr_ok hn (by decide) hs)) (wr_ok hn (by decide) hs))
theorem tkNN_ok (hT : cutT I J R g n T) (hn : n ≤ 1000) (hs : okRs T s) : okRs T (tkNN g n bb s) := ad_ok hT (ite_ok (ite_ok (wr_ok hn (by decide) hs) hs) (wr_ok hn (by decide) hs))
theorem tkNa_ok (hT : cutT I J R g n T) (hn : n ≤ 1000) (hs : okRs T s) : okRs T (tkNa g n bb s) := ad_ok hT (ite_ok (ite_ok hs (wr_ok hn (by decide) hs)) (wr_ok hn (by decide) hs))
/-- behind a fault all is left alone -/
theorem wr_f (h : s.2 ≠ 0) : wr g n k s = s := if_neg h
theorem ad_f (h : s.2 ≠ 0) : ad g n s = s := if_neg (fun z => h z.1)
theorem tkS_f (h : s.2 ≠ 0) : tkS g n c s = s := by unfold tkS; rw [wr_f h, ite_self, ad_f h]
theorem tkW_f (h : s.2 ≠ 0) : tkW g n w s = s := by unfold tkW; rw [wr_f h, ite_self, ad_f h]
theorem tkK_f (h : s.2 ≠ 0) : tkK g n s = s := by unfold tkK; rw [wr_f h, ite_self, ad_f h]
theorem tkN_f (h : s.2 ≠ 0) : tkN g n lo hi s = s := by unfold tkN; rw [wr_f h, wr_f h, ite_self, ite_self, ad_f h]
theorem tkNN_f (h : s.2 ≠ 0) : tkNN g n bb s = s := by unfold tkNN; rw [wr_f h, wr_f h, ite_self, ite_self, ad_f h]
theorem tkNa_f (h : s.2 ≠ 0) : tkNa g n bb s = s := by unfold tkNa; rw [wr_f h, wr_f h, ite_self, ite_self, ad_f h]
/-- what comes of each at a token, without a fault so far -/
theorem ad_0 (h : kd g n i ≠ 0) : ad g n (i, 0) = (i + 1, 0) := if_pos ⟨rfl, h⟩
theorem wr_0 : wr g n k (i, 0) = (i, k + 16 * bg g n i) := if_pos rfl
theorem ad_w (h : k ≠ 0) : ad g n (i, k + 16 * bg g n i) = (i, k + 16 * bg g n i) := ad_f (by show k + 16 * bg g n i ≠ 0; omega)
theorem isSgn_k (h : isSgn g n c i = true) : kd g n i = 3 ∧ g (bg g n i) = c := by unfold isSgn at h; simpa using h
theorem tkS_t (h : isSgn g n c i = true) : tkS g n c (i, 0) = (i + 1, 0) := by unfold tkS; rw [if_pos h, ad_0 (by rw [(isSgn_k h).1]; decide)]
theorem tkS_n (h : isSgn g n c i = false) : tkS g n c (i, 0) = (i, 1 + 16 * bg g n i) := by unfold tkS; rw [if_neg (by show ¬ isSgn g n c i = true; rw [h]; decide), wr_0, ad_w (by decide)]
theorem wd_kd (h : wd g n i ≠ 29) : kd g n i = 1 := by
  by_cases hk : kd g n i = 1
  · exact hk
  · exact absurd (wd_29 hk) h
theorem tkW_t (h : wd g n i = w) (hw : w ≠ 29) : tkW g n w (i, 0) = (i + 1, 0) := by unfold tkW; rw [if_pos h, ad_0 (by rw [wd_kd (h ▸ hw)]; decide)]
theorem tkW_n (h : wd g n i ≠ w) : tkW g n w (i, 0) = (i, 1 + 16 * bg g n i) := by unfold tkW; rw [if_neg h, wr_0, ad_w (by decide)]
theorem tkN_t (h : kd g n i = 2) (h1 : lo ≤ vl g n i) (h2 : vl g n i < hi) : tkN g n lo hi (i, 0) = (i + 1, 0) := by unfold tkN; rw [if_pos h, if_pos ⟨h1, h2⟩, ad_0 (by rw [h]; decide)]
theorem tkN_n (h : kd g n i ≠ 2) : tkN g n lo hi (i, 0) = (i, 1 + 16 * bg g n i) := by unfold tkN; rw [if_neg h, wr_0, ad_w (by decide)]
theorem tkN_4 (h : kd g n i = 2) (h1 : ¬ (lo ≤ vl g n i ∧ vl g n i < hi)) : tkN g n lo hi (i, 0) = (i, 4 + 16 * bg g n i) := by unfold tkN; rw [if_pos h, if_neg h1, wr_0, ad_w (by decide)]
theorem wSo29 : wSo 29 = nI 4 := by decide
theorem tkK_t (h : wSo (wd g n i) = nI 2) : tkK g n (i, 0) = (i + 1, 0) := by
  unfold tkK
  have : wd g n i ≠ 29 := fun z => by rw [z] at h; exact absurd h (by decide)
  rw [if_pos h, ad_0 (by rw [wd_kd this]; decide)]
theorem tkK_n (h : wSo (wd g n i) ≠ nI 2) : tkK g n (i, 0) = (i, 1 + 16 * bg g n i) := by unfold tkK; rw [if_neg h, wr_0, ad_w (by decide)]
theorem isNm_k (h : isNm g n i = true) : kd g n i = 1 := by unfold isNm at h; simp at h; exact h.1
theorem tkNN_n (h : isNm g n i = false) : tkNN g n bb (i, 0) = (i, 1 + 16 * bg g n i) := by unfold tkNN; rw [if_neg (by show ¬ isNm g n i = true; rw [h]; decide), wr_0, ad_w (by decide)]
theorem tkNN_t (h : isNm g n i = true) : tkNN g n false (i, 0) = (i + 1, 0) := by unfold tkNN; rw [if_pos h, if_neg (by decide), ad_0 (by rw [isNm_k h]; decide)]
theorem tkNN_3 (h : isNm g n i = true) : tkNN g n true (i, 0) = (i, 3 + 16 * bg g n i) := by unfold tkNN; rw [if_pos h, if_pos rfl, wr_0, ad_w (by decide)]
theorem tkNa_n (h : isNm g n i = false) : tkNa g n bb (i, 0) = (i, 1 + 16 * bg g n i) := by unfold tkNa; rw [if_neg (by show ¬ isNm g n i = true; rw [h]; decide), wr_0, ad_w (by decide)]
theorem tkNa_t (h : isNm g n i = true) : tkNa g n true (i, 0) = (i + 1, 0) := by unfold tkNa; rw [if_pos h, if_pos rfl, ad_0 (by rw [isNm_k h]; decide)]
theorem tkNa_2 (h : isNm g n i = true) : tkNa g n false (i, 0) = (i, 2 + 16 * bg g n i) := by unfold tkNa; rw [if_pos h, if_neg (by decide), wr_0, ad_w (by decide)]
end G4
