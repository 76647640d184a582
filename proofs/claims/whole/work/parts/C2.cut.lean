/-! THE CLASS'S TAPE CUT -/
def wdv (x : Nat) : Int64 × Int32 × Int32 := ip_wd.getD x (0, 0, 0)
def wofL (x : Int64) : Nat := match ff 30 (fun j => decide ((wdv j).1 = x)) with
  | some j => j
  | none => 29
def wdB (g : Nat → Nat) (n b : Nat) : Nat := if kdB g n b = 1 then wofL (lN (vbo 32 96 g b (wlB g n b))) else 29
def wd (g : Nat → Nat) (n i : Nat) : Nat := wdB g n (bg g n i)
def cmk (k : Nat) : Nat := if k = 1 then 3 else if k = 3 then 4 else if k = 4 then 1 else k
/-- the row k of the tape's table tells the token at b -/
def tkB (I : Mi) (J : Mj) (R : Mr) (g : Nat → Nat) (n b k : Nat) : Prop := I 67 k = nI (cmk (kdB g n b)) ∧ I 68 k = nI b ∧ R 71 k = some (wdB g n b) ∧ (kdB g n b = 2 → I 69 k = nI (vbo 10 48 g b (dlB g n b))) ∧ (kdB g n b = 3 → I 69 k = nI (g b)) ∧ (kdB g n b = 1 → J 70 k = lN (vbo 32 96 g b (wlB g n b)))
/-- only the row k of the tape's table changed, and the number of its tokens -/
def tkF (I : Mi) (J : Mj) (R : Mr) (I' : Mi) (J' : Mj) (R' : Mr) (k : Nat) : Prop := (∀ a, a ≠ 65 → a ≠ 67 → a ≠ 68 → a ≠ 69 → I' a = I a) ∧ I' 65 = upd (I 65) 7 (nI (k + 1)) ∧ (∀ j, j ≠ k → I' 67 j = I 67 j ∧ I' 68 j = I 68 j ∧ I' 69 j = I 69 j ∧ J' 70 j = J 70 j ∧ R' 71 j = R 71 j) ∧ (∀ a, a ≠ 70 → J' a = J a) ∧ (∀ a, a ≠ 71 → R' a = R a)
def sgT (I : Mi) (g : Nat → Nat) (n : Nat) : Prop := ∀ k, k < n → I 66 k = nI (g k) ∧ okc (g k) = true
def putI (I : Mi) (k s p : Nat) : Mi := st (st (st I 67 (upd (I 67) k (nI s))) 68 (upd (I 68) k (nI p))) 65 (upd (I 65) 7 (nI (k + 1)))
section G2
variable {L : Nat} {xs : Nat → Int32} {d : Nat} {P : Option Value → Hp → Prop} {I : Mi} {J : Mj} {R : Mr} {Z : Mz} {c k n i p s w b m x : Nat} {g : Nat → Nat} {y : Int64} {h : Hp}
theorem wdA (hx : x < 30) : ip_wd[x]? = some (wdv x) := by
  unfold wdv
  rw [List.getD_eq_getElem?_getD]
  cases hq : ip_wd[x]? with
  | some v => rfl
  | none => rw [List.getElem?_eq_none_iff] at hq; have : ip_wd.length = 30 := rfl; omega
theorem wofL_lt : wofL y < 30 := by
  unfold wofL
  cases hf : ff 30 (fun j => decide ((wdv j).1 = y)) with
  | none => decide
  | some j => exact (ff_some.mp hf).1
theorem wdB_lt : wdB g n b < 30 := by
  unfold wdB; split
  · exact wofL_lt
  · decide
theorem okc_lt (hc : okc c = true) : c < 127 := by unfold okc at hc; simp at hc; omega
theorem al30 {K : Int32 → Prop} : al L h 30 K = K (nI 30) := by unfold al; rw [if_neg (by decide), if_pos rfl]; rfl
theorem gr30 {K : Nat → Prop} (hi : i < 30) : gr h 30 (nI i) K = K i := by
  unfold gr; rw [if_pos rfl, ip_inN hi (by decide), nI_clamp (by omega)]; simp
theorem lgc {x y : Int64} : (lg_cmp x y = nI 0) = (x = y) := propext (lg_cmp_eq x y)
theorem wv0 {v : Int64 × Int32 × Int32} : ip_wv 0 v = .long v.1 := rfl
theorem wv1 {v : Int64 × Int32 × Int32} : ip_wv 1 v = .int v.2.1 := rfl
theorem wv2 {v : Int64 × Int32 × Int32} : ip_wv 2 v = .int v.2.2 := rfl
theorem k_ofLetters : Wp L xs d 113 0 [some (.long (y)), none, none] [] (mk I J R Z) P = P (some (.ref (wofL y))) (mk I J R Z) := by
  simp (discharger := omega) only [↓w113_0, ↓w113_1, ↓w113_3, ↓w113_6, ↓w113_7, ↓w113_10, ↓w113_13, ↓w113_14, ↓w113_15, ↓w113_18, ↓w113_19, ↓w113_20, ↓w113_23, ↓w113_26, ↓w113_27, ↓w113_28, ↓w113_29, ↓w113_32, ↓w113_35, ↓w113_38, mul8, mul8', mul4, mul4', nI_add, inT, nclN, ltT, ltF, leT, leF, eqT, eqF, nzF, m1F, m1T, shr, shg, bI0, bI1, bo_bI, bo_1, bo_0, eq10, eq00, frT1, frT2, frT3, fit0, fit1, fit2, fit3, true_and, and_true, ↓reduceIte, Nat.reduceAdd, Nat.reduceMul, and_self, not_false_eq_true, not_true_eq_false, Nat.zero_add, Nat.add_zero]
  refine (ff_any (T := Unit) (F := fun i _ => Wp L xs d 113 2 [some (.long (y)), none, some (.int (nI i))] [] (mk I J R Z) P) (p := fun j => decide ((wdv j).1 = y)) (X := fun j => P (some (.ref j)) (mk I J R Z)) (Y := P (some (.ref 29)) (mk I J R Z)) 30 ?_ ?_ ()).trans ?_
  · intro i _ hi
    refine ⟨(), w113_2.trans ?_⟩
    simp (discharger := omega) only [↓w113_0, ↓w113_1, ↓w113_3, ↓w113_6, ↓w113_7, ↓w113_10, ↓w113_13, ↓w113_14, ↓w113_18, ↓w113_19, ↓w113_20, ↓w113_23, ↓w113_26, ↓w113_27, ↓w113_28, ↓w113_29, ↓w113_32, ↓w113_35, ↓w113_38, al30, gr30 hi, ↓w113_15 (wdA hi) hi, wv0, lgc, mul8, mul8', mul4, mul4', nI_add, inT, nclN, ltT, ltF, leT, leF, eqT, eqF, nzF, m1F, m1T, shr, shg, bI0, bI1, bo_bI, bo_1, bo_0, eq10, eq00, frT1, frT2, frT3, fit0, fit1, fit2, fit3, true_and, and_true, ↓reduceIte, Nat.reduceAdd, Nat.reduceMul, and_self, not_false_eq_true, not_true_eq_false, Nat.zero_add, Nat.add_zero]
    by_cases q : (wdv i).1 = y <;> simp [q]
  · intro _
    refine w113_2.trans ?_
    simp (discharger := omega) only [↓w113_0, ↓w113_1, ↓w113_3, ↓w113_6, ↓w113_7, ↓w113_10, ↓w113_13, ↓w113_14, ↓w113_18, ↓w113_19, ↓w113_20, ↓w113_23, ↓w113_26, ↓w113_27, ↓w113_28, ↓w113_29, ↓w113_32, ↓w113_35, ↓w113_38, al30, mul8, mul8', mul4, mul4', nI_add, inT, nclN, ltT, ltF, leT, leF, eqT, eqF, nzF, m1F, m1T, shr, shg, bI0, bI1, bo_bI, bo_1, bo_0, eq10, eq00, frT1, frT2, frT3, fit0, fit1, fit2, fit3, true_and, and_true, ↓reduceIte, Nat.reduceAdd, Nat.reduceMul, and_self, not_false_eq_true, not_true_eq_false, Nat.zero_add, Nat.add_zero]
  · unfold wofL
    cases ff 30 (fun j => decide ((wdv j).1 = y)) <;> rfl
theorem k_isLetter (hc : c < 256) : Wp L xs d 107 0 [some (.int (nI c))] [] (mk I J R Z) P = P (some (.int (bI (isL c)))) (mk I J R Z) := by
  unfold isL
  by_cases h1 : c < 97
  · simp (discharger := omega) only [↓w107_0, ↓w107_1, ↓w107_3, ↓w107_6, ↓w107_7, ↓w107_9, ↓w107_12, ↓w107_13, ↓w107_16, ↓w107_17, mul8, mul8', mul4, mul4', nI_add, inT, nclN, ltT, ltF, leT, leF, eqT, eqF, nzF, m1F, m1T, shr, shg, bI0, bI1, bo_bI, bo_1, bo_0, eq10, eq00, frT1, frT2, frT3, fit0, fit1, fit2, fit3, true_and, and_true, ↓reduceIte, Nat.reduceAdd, Nat.reduceMul, and_self, not_false_eq_true, not_true_eq_false, Nat.zero_add, Nat.add_zero]; rw [show decide (97 ≤ c) = false by simp; omega]; rfl
  · by_cases h2 : 122 < c
    · simp (discharger := omega) only [↓w107_0, ↓w107_1, ↓w107_3, ↓w107_6, ↓w107_7, ↓w107_9, ↓w107_12, ↓w107_13, ↓w107_16, ↓w107_17, mul8, mul8', mul4, mul4', nI_add, inT, nclN, ltT, ltF, leT, leF, eqT, eqF, nzF, m1F, m1T, shr, shg, bI0, bI1, bo_bI, bo_1, bo_0, eq10, eq00, frT1, frT2, frT3, fit0, fit1, fit2, fit3, true_and, and_true, ↓reduceIte, Nat.reduceAdd, Nat.reduceMul, and_self, not_false_eq_true, not_true_eq_false, Nat.zero_add, Nat.add_zero]; rw [show decide (c ≤ 122) = false by simp; omega, Bool.and_false]; rfl
    · simp (discharger := omega) only [↓w107_0, ↓w107_1, ↓w107_3, ↓w107_6, ↓w107_7, ↓w107_9, ↓w107_12, ↓w107_13, ↓w107_16, ↓w107_17, mul8, mul8', mul4, mul4', nI_add, inT, nclN, ltT, ltF, leT, leF, eqT, eqF, nzF, m1F, m1T, shr, shg, bI0, bI1, bo_bI, bo_1, bo_0, eq10, eq00, frT1, frT2, frT3, fit0, fit1, fit2, fit3, true_and, and_true, ↓reduceIte, Nat.reduceAdd, Nat.reduceMul, and_self, not_false_eq_true, not_true_eq_false, Nat.zero_add, Nat.add_zero]; rw [show decide (c ≤ 122) = true by simp; omega, show decide (97 ≤ c) = true by simp; omega]; rfl
theorem k_isDigit (hc : c < 256) : Wp L xs d 108 0 [some (.int (nI c))] [] (mk I J R Z) P = P (some (.int (bI (isD c)))) (mk I J R Z) := by
  unfold isD
  by_cases h1 : c < 48
  · simp (discharger := omega) only [↓w108_0, ↓w108_1, ↓w108_3, ↓w108_6, ↓w108_7, ↓w108_9, ↓w108_12, ↓w108_13, ↓w108_16, ↓w108_17, mul8, mul8', mul4, mul4', nI_add, inT, nclN, ltT, ltF, leT, leF, eqT, eqF, nzF, m1F, m1T, shr, shg, bI0, bI1, bo_bI, bo_1, bo_0, eq10, eq00, frT1, frT2, frT3, fit0, fit1, fit2, fit3, true_and, and_true, ↓reduceIte, Nat.reduceAdd, Nat.reduceMul, and_self, not_false_eq_true, not_true_eq_false, Nat.zero_add, Nat.add_zero]; rw [show decide (48 ≤ c) = false by simp; omega]; rfl
  · by_cases h2 : 57 < c
    · simp (discharger := omega) only [↓w108_0, ↓w108_1, ↓w108_3, ↓w108_6, ↓w108_7, ↓w108_9, ↓w108_12, ↓w108_13, ↓w108_16, ↓w108_17, mul8, mul8', mul4, mul4', nI_add, inT, nclN, ltT, ltF, leT, leF, eqT, eqF, nzF, m1F, m1T, shr, shg, bI0, bI1, bo_bI, bo_1, bo_0, eq10, eq00, frT1, frT2, frT3, fit0, fit1, fit2, fit3, true_and, and_true, ↓reduceIte, Nat.reduceAdd, Nat.reduceMul, and_self, not_false_eq_true, not_true_eq_false, Nat.zero_add, Nat.add_zero]; rw [show decide (c ≤ 57) = false by simp; omega, Bool.and_false]; rfl
    · simp (discharger := omega) only [↓w108_0, ↓w108_1, ↓w108_3, ↓w108_6, ↓w108_7, ↓w108_9, ↓w108_12, ↓w108_13, ↓w108_16, ↓w108_17, mul8, mul8', mul4, mul4', nI_add, inT, nclN, ltT, ltF, leT, leF, eqT, eqF, nzF, m1F, m1T, shr, shg, bI0, bI1, bo_bI, bo_1, bo_0, eq10, eq00, frT1, frT2, frT3, fit0, fit1, fit2, fit3, true_and, and_true, ↓reduceIte, Nat.reduceAdd, Nat.reduceMul, and_self, not_false_eq_true, not_true_eq_false, Nat.zero_add, Nat.add_zero]; rw [show decide (c ≤ 57) = true by simp; omega, show decide (48 ≤ c) = true by simp; omega]; rfl
theorem k_put (hk : I 65 7 = nI k) (hk2 : k < 1001) (hw : w < 30) : Wp L xs d 106 0 [some (.ref (65)), some (.int (nI s)), some (.int (nI p)), some (.ref (w))] [] (mk I J R Z) P = P none (mk (putI I k s p) J (st R 71 (va_up (R 71) k (some w))) Z) := by
  unfold putI
  simp (discharger := omega) only [↓w106_0, ↓w106_1, ↓w106_4, ↓w106_5, ↓w106_8, ↓w106_9, ↓w106_10, ↓w106_11, ↓w106_14, ↓w106_15, ↓w106_18, ↓w106_19, ↓w106_20, ↓w106_21, ↓w106_24, ↓w106_25, ↓w106_28, ↓w106_29, ↓w106_30, ↓w106_31, ↓w106_32, ↓w106_35, ↓w106_36, ↓w106_37, ↓w106_40, rc65, g65_0, g65_1, p65_1, g65_2, g65_3, g65_4, g65_5, g65_6, g65_7, p65_7, gi67, si67, gi68, si68, srM hw, hk, st_ne, mul8, mul8', mul4, mul4', nI_add, inT, nclN, ltT, ltF, leT, leF, eqT, eqF, nzF, m1F, m1T, shr, shg, bI0, bI1, bo_bI, bo_1, bo_0, eq10, eq00, frT1, frT2, frT3, fit0, fit1, fit2, fit3, true_and, and_true, ↓reduceIte, Nat.reduceAdd, Nat.reduceMul, and_self, not_false_eq_true, not_true_eq_false, Nat.zero_add, Nat.add_zero]
theorem spl : ∀ c, c < 256 → 97 ≤ c → (nI c - nI 97 + nI 1).toInt64 = lN (c - 96) := by decide +kernel
theorem lN_mu {a b : Nat} : lN a * lN b = lN (a * b) := (Int64.ofNat_mul a b).symm
theorem lN_ad {a b : Nat} : lN a + lN b = lN (a + b) := (Int64.ofNat_add a b).symm
theorem k_spell (hc : c < 256) (hl : 97 ≤ c) : Wp L xs d 112 0 [some (.long (lN x)), none, some (.int (nI c))] [] (mk I J R Z) P = P (some (.long (lN (x * 32 + (c - 96))))) (mk I J R Z) := by
  simp (discharger := omega) only [↓w112_0, ↓w112_1, ↓w112_4, ↓w112_5, ↓w112_6, ↓w112_8, ↓w112_9, ↓w112_10, ↓w112_11, ↓w112_12, ↓w112_13, spl c hc hl, lN_mu, lN_ad, mul8, mul8', mul4, mul4', nI_add, inT, nclN, ltT, ltF, leT, leF, eqT, eqF, nzF, m1F, m1T, shr, shg, bI0, bI1, bo_bI, bo_1, bo_0, eq10, eq00, frT1, frT2, frT3, fit0, fit1, fit2, fit3, true_and, and_true, ↓reduceIte, Nat.reduceAdd, Nat.reduceMul, and_self, not_false_eq_true, not_true_eq_false, Nat.zero_add, Nat.add_zero]
theorem putI_65 : putI I k s p 65 = upd (I 65) 7 (nI (k + 1)) := by unfold putI; rw [st_eq]
theorem putI_67 : putI I k s p 67 = upd (I 67) k (nI s) := by unfold putI; rw [st_ne (by decide), st_ne (by decide), st_eq]
theorem putI_68 : putI I k s p 68 = upd (I 68) k (nI p) := by unfold putI; rw [st_ne (by decide), st_eq]
theorem putI_ne {a : Nat} (h1 : a ≠ 65) (h2 : a ≠ 67) (h3 : a ≠ 68) : putI I k s p a = I a := by unfold putI; rw [st_ne h1, st_ne h3, st_ne h2]
theorem updL_eq {f : Nat → Int64} {i : Nat} {x : Int64} : vp_updL f i x i = x := if_pos rfl
theorem updL_ne {f : Nat → Int64} {i j : Nat} {x : Int64} (h : j ≠ i) : vp_updL f i x j = f j := if_neg h
theorem updL_updL {f : Nat → Int64} {i : Nat} {x y : Int64} : vp_updL (vp_updL f i x) i y = vp_updL f i y := by
  funext q; unfold vp_updL; split <;> rfl
theorem tkF_put {v : Int32} {u : Int64} : tkF I J R (putI (st I 69 (upd (I 69) k v)) k s p) (st J 70 (vp_updL (J 70) k u)) (st R 71 (va_up (R 71) k (some w))) k := by
  refine ⟨fun a h1 h2 h3 h4 => by rw [putI_ne h1 h2 h3, st_ne h4], by rw [putI_65, st_ne (by decide)], fun j hj => ⟨?_, ?_, ?_, ?_, ?_⟩, fun a ha => st_ne ha, fun a ha => st_ne ha⟩
  · rw [putI_67, upd_ne hj, st_ne (by decide)]
  · rw [putI_68, upd_ne hj, st_ne (by decide)]
  · rw [putI_ne (by decide) (by decide) (by decide), st_eq, upd_ne hj]
  · rw [st_eq, updL_ne hj]
  · rw [st_eq, va_up_ne _ _ hj]
theorem upd_self {f : Nat → Int32} {i : Nat} : upd f i (f i) = f := by
  funext q; unfold upd; split
  · rename_i z; rw [z]
  · rfl
theorem updL_self {f : Nat → Int64} {i : Nat} : vp_updL f i (f i) = f := by
  funext q; unfold vp_updL; split
  · rename_i z; rw [z]
  · rfl
theorem tkF_putI {v : Int32} : tkF I J R (putI (st I 69 (upd (I 69) k v)) k s p) J (st R 71 (va_up (R 71) k (some w))) k := by
  have := tkF_put (I := I) (J := J) (R := R) (k := k) (s := s) (p := p) (w := w) (v := v) (u := J 70 k)
  rwa [updL_self, st_id] at this
theorem tkF_putJ {u : Int64} : tkF I J R (putI I k s p) (st J 70 (vp_updL (J 70) k u)) (st R 71 (va_up (R 71) k (some w))) k := by
  have := tkF_put (I := I) (J := J) (R := R) (k := k) (s := s) (p := p) (w := w) (v := I 69 k) (u := u)
  rwa [upd_self, st_id] at this
theorem tkF_putN : tkF I J R (putI I k s p) J (st R 71 (va_up (R 71) k (some w))) k := by
  have := tkF_put (I := I) (J := J) (R := R) (k := k) (s := s) (p := p) (w := w) (v := I 69 k) (u := J 70 k)
  rwa [upd_self, st_id, updL_self, st_id] at this
theorem nI_dif {a b : Nat} (h : b ≤ a) : nI a - nI b = nI (a - b) := by
  have e : nI a = nI (a - b) + nI b := by rw [nI_add]; congr 1; omega
  rw [e]; exact Int32.add_sub_cancel _ _
theorem k_cutWord (hl : I 65 1 = nI n) (hn : n ≤ 1000) (hs : sgT I g n) (hk : I 65 7 = nI k) (hk2 : k < 1001) (hb : b < n) (hL : isL (g b) = true) : ∃ I' J' R', (tkF I J R I' J' R' k ∧ tkB I' J' R' g n b k) ∧ ∀ P, Wp L xs (d+1) 104 0 [some (.ref (65)), some (.int (nI b)), none, none, none, none] [] (mk I J R Z) P = P (some (.int (nI (nxB g n b)))) (mk I' J' R' Z) := by
  have hE : rnn isL g n b = b + wlB g n b := by
    have := rnn_ge (Q := isL) (g := g) (n := n) (p := b) (by omega)
    unfold wlB; omega
  have hEn : b + wlB g n b ≤ n := hE ▸ rnn_le (Q := isL) (g := g) (n := n) (p := b) (by omega)
  have hnx : nxB g n b = b + wlB g n b := by unfold nxB; rw [if_neg (by omega), if_pos hL, hE]
  have key : ∀ P, ∀ m, m ≤ wlB g n b → Wp L xs (d+1) 104 4 [some (.ref (65)), some (.int (nI b)), some (.int (nI b)), some (.long (lN 0)), none, none] [] (mk I J R Z) P = Wp L xs (d+1) 104 4 [some (.ref (65)), some (.int (nI b)), some (.int (nI (b + m))), some (.long (lN (vbo 32 96 g b m))), none, none] [] (mk I J R Z) P := by
    intro P m
    induction m with
    | zero => intro _; exact Eq.refl _
    | succ m ih =>
      intro hm
      rw [ih (by omega)]
      refine w104_4.trans ?_
      obtain ⟨hc, hc2⟩ := hs (b + m) (by omega)
      have hc3 := okc_lt hc2
      have hl1 : isL (g (b + m)) = true := rnn_in (Q := isL) (g := g) (n := n) (p := b) (by omega) (by omega) (by omega)
      have hl2 := isL_lt hl1
      simp (discharger := omega) only [↓w104_0, ↓w104_1, ↓w104_2, ↓w104_3, ↓w104_5, ↓w104_6, ↓w104_9, ↓w104_12, ↓w104_13, ↓w104_16, ↓w104_17, ↓w104_18, ↓w104_21, ↓w104_24, ↓w104_25, ↓w104_26, ↓w104_29, ↓w104_30, ↓w104_31, ↓w104_34, ↓w104_35, ↓w104_38, ↓w104_41, ↓w104_42, ↓w104_45, ↓w104_46, ↓w104_49, ↓w104_50, ↓w104_51, ↓w104_52, ↓w104_53, ↓w104_54, ↓w104_56, ↓w104_59, ↓w104_60, ↓w104_63, ↓w104_64, ↓w104_66, ↓w104_67, ↓w104_69, ↓w104_72, ↓w104_73, ↓w104_76, ↓w104_77, ↓w104_78, ↓w104_80, ↓w104_83, ↓w104_86, ↓w104_89, ↓w104_90, ↓w104_93, ↓w104_96, ↓w104_97, rc65, g65_0, g65_1, p65_1, g65_2, g65_3, g65_4, g65_5, g65_6, g65_7, p65_7, gi66, si66, hl, hc, ↓k_isLetter, ↓k_spell, hl1, bI_t, ↓kc_i, ↓kc_l, ↓kc_r, ↓kc_n, mul8, mul8', mul4, mul4', nI_add, inT, nclN, ltT, ltF, leT, leF, eqT, eqF, nzF, m1F, m1T, shr, shg, bI0, bI1, bo_bI, bo_1, bo_0, eq10, eq00, frT1, frT2, frT3, fit0, fit1, fit2, fit3, true_and, and_true, ↓reduceIte, Nat.reduceAdd, Nat.reduceMul, and_self, not_false_eq_true, not_true_eq_false, Nat.zero_add, Nat.add_zero]
      exact Eq.refl _
  have key2 := fun P => key P (wlB g n b) (Nat.le_refl _)
  have hex : ∀ P, Wp L xs (d+1) 104 4 [some (.ref (65)), some (.int (nI b)), some (.int (nI (b + wlB g n b))), some (.long (lN (vbo 32 96 g b (wlB g n b)))), none, none] [] (mk I J R Z) P = Wp L xs (d+1) 104 41 [some (.ref (65)), some (.int (nI b)), some (.int (nI (b + wlB g n b))), some (.long (lN (vbo 32 96 g b (wlB g n b)))), none, none] [] (mk I J R Z) P := by
    intro P
    refine w104_4.trans ?_
    by_cases he : b + wlB g n b = n
    · simp (discharger := omega) only [↓w104_0, ↓w104_1, ↓w104_2, ↓w104_3, ↓w104_5, ↓w104_6, ↓w104_9, ↓w104_12, ↓w104_13, ↓w104_16, ↓w104_17, ↓w104_18, ↓w104_21, ↓w104_24, ↓w104_25, ↓w104_26, ↓w104_29, ↓w104_30, ↓w104_31, ↓w104_34, ↓w104_35, ↓w104_38, ↓w104_42, ↓w104_45, ↓w104_46, ↓w104_49, ↓w104_50, ↓w104_51, ↓w104_52, ↓w104_53, ↓w104_54, ↓w104_56, ↓w104_59, ↓w104_60, ↓w104_63, ↓w104_64, ↓w104_66, ↓w104_67, ↓w104_69, ↓w104_72, ↓w104_73, ↓w104_76, ↓w104_77, ↓w104_78, ↓w104_80, ↓w104_83, ↓w104_86, ↓w104_89, ↓w104_90, ↓w104_93, ↓w104_96, ↓w104_97, rc65, g65_0, g65_1, p65_1, g65_2, g65_3, g65_4, g65_5, g65_6, g65_7, p65_7, gi66, si66, hl, mul8, mul8', mul4, mul4', nI_add, inT, nclN, ltT, ltF, leT, leF, eqT, eqF, nzF, m1F, m1T, shr, shg, bI0, bI1, bo_bI, bo_1, bo_0, eq10, eq00, frT1, frT2, frT3, fit0, fit1, fit2, fit3, true_and, and_true, ↓reduceIte, Nat.reduceAdd, Nat.reduceMul, and_self, not_false_eq_true, not_true_eq_false, Nat.zero_add, Nat.add_zero]
    · obtain ⟨hc, hc2⟩ := hs (b + wlB g n b) (by omega)
      have hc3 := okc_lt hc2
      have hl1 : isL (g (b + wlB g n b)) = false := hE ▸ rnn_at (Q := isL) (g := g) (n := n) (p := b) (by omega) (by omega)
      simp (discharger := omega) only [↓w104_0, ↓w104_1, ↓w104_2, ↓w104_3, ↓w104_5, ↓w104_6, ↓w104_9, ↓w104_12, ↓w104_13, ↓w104_16, ↓w104_17, ↓w104_18, ↓w104_21, ↓w104_24, ↓w104_25, ↓w104_26, ↓w104_29, ↓w104_30, ↓w104_31, ↓w104_34, ↓w104_35, ↓w104_38, ↓w104_42, ↓w104_45, ↓w104_46, ↓w104_49, ↓w104_50, ↓w104_51, ↓w104_52, ↓w104_53, ↓w104_54, ↓w104_56, ↓w104_59, ↓w104_60, ↓w104_63, ↓w104_64, ↓w104_66, ↓w104_67, ↓w104_69, ↓w104_72, ↓w104_73, ↓w104_76, ↓w104_77, ↓w104_78, ↓w104_80, ↓w104_83, ↓w104_86, ↓w104_89, ↓w104_90, ↓w104_93, ↓w104_96, ↓w104_97, rc65, g65_0, g65_1, p65_1, g65_2, g65_3, g65_4, g65_5, g65_6, g65_7, p65_7, gi66, si66, hl, hc, ↓k_isLetter, hl1, bI_f, ↓kc_i, ↓kc_l, ↓kc_r, ↓kc_n, mul8, mul8', mul4, mul4', nI_add, inT, nclN, ltT, ltF, leT, leF, eqT, eqF, nzF, m1F, m1T, shr, shg, bI0, bI1, bo_bI, bo_1, bo_0, eq10, eq00, frT1, frT2, frT3, fit0, fit1, fit2, fit3, true_and, and_true, ↓reduceIte, Nat.reduceAdd, Nat.reduceMul, and_self, not_false_eq_true, not_true_eq_false, Nat.zero_add, Nat.add_zero]
  by_cases h8 : wlB g n b ≤ 8
  · have hkd : kdB g n b = 1 := by unfold kdB; rw [if_neg (by omega), if_pos hL, if_pos h8]
    have hwd : wdB g n b = wofL (lN (vbo 32 96 g b (wlB g n b))) := by unfold wdB; rw [if_pos hkd]
    have hof := fun P => k_ofLetters (L := L) (xs := xs) (d := d) (P := P) (I := I) (J := st J 70 (vp_updL (J 70) k (lN (vbo 32 96 g b (wlB g n b))))) (R := R) (Z := Z) (y := lN (vbo 32 96 g b (wlB g n b)))
    have hpu := fun P => k_put (L := L) (xs := xs) (d := d) (P := P) (I := I) (J := st J 70 (vp_updL (J 70) k (lN (vbo 32 96 g b (wlB g n b))))) (R := R) (Z := Z) (s := 3) (p := b) (w := wdB g n b) hk hk2 wdB_lt
    refine ⟨_, _, _, ⟨tkF_putJ (u := lN (vbo 32 96 g b (wlB g n b))) (s := 3) (p := b) (w := wdB g n b), ?_⟩, fun P => ?_⟩
    · refine ⟨by rw [putI_67, upd_eq, hkd]; rfl, by rw [putI_68, upd_eq], by rw [st_eq, va_up_self], fun z => ?_, fun z => ?_, fun _ => by rw [st_eq, updL_eq]⟩
      · rw [hkd] at z; cases z
      · rw [hkd] at z; cases z
    · have hsub : nI (b + wlB g n b) - nI b = nI (wlB g n b) := by rw [nI_dif (by omega), show b + wlB g n b - b = wlB g n b by omega]
      rw [← hwd] at hof
      have h0 : (Int64.ofNat 0) = lN 0 := rfl
      simp (discharger := omega) only [↓w104_0, ↓w104_1, ↓w104_2, ↓w104_3, ↓w104_5, ↓w104_6, ↓w104_9, ↓w104_12, ↓w104_13, ↓w104_16, ↓w104_17, ↓w104_18, ↓w104_21, ↓w104_24, ↓w104_25, ↓w104_26, ↓w104_29, ↓w104_30, ↓w104_31, ↓w104_34, ↓w104_35, ↓w104_38, ↓w104_42, ↓w104_45, ↓w104_46, ↓w104_49, ↓w104_50, ↓w104_51, ↓w104_52, ↓w104_53, ↓w104_54, ↓w104_56, ↓w104_59, ↓w104_60, ↓w104_63, ↓w104_64, ↓w104_66, ↓w104_67, ↓w104_69, ↓w104_72, ↓w104_73, ↓w104_76, ↓w104_77, ↓w104_78, ↓w104_80, ↓w104_83, ↓w104_86, ↓w104_89, ↓w104_90, ↓w104_93, ↓w104_96, ↓w104_97, ↓key2, ↓hex, mul8, mul8', mul4, mul4', nI_add, inT, nclN, ltT, ltF, leT, leF, eqT, eqF, nzF, m1F, m1T, shr, shg, bI0, bI1, bo_bI, bo_1, bo_0, eq10, eq00, frT1, frT2, frT3, fit0, fit1, fit2, fit3, true_and, and_true, ↓reduceIte, Nat.reduceAdd, Nat.reduceMul, and_self, not_false_eq_true, not_true_eq_false, Nat.zero_add, Nat.add_zero]
      simp (discharger := omega) only [↓w104_0, ↓w104_1, ↓w104_2, ↓w104_3, ↓w104_5, ↓w104_6, ↓w104_9, ↓w104_12, ↓w104_13, ↓w104_16, ↓w104_17, ↓w104_18, ↓w104_21, ↓w104_24, ↓w104_25, ↓w104_26, ↓w104_29, ↓w104_30, ↓w104_31, ↓w104_34, ↓w104_35, ↓w104_38, ↓w104_41, ↓w104_42, ↓w104_45, ↓w104_46, ↓w104_49, ↓w104_50, ↓w104_51, ↓w104_52, ↓w104_53, ↓w104_54, ↓w104_56, ↓w104_59, ↓w104_60, ↓w104_63, ↓w104_64, ↓w104_66, ↓w104_67, ↓w104_69, ↓w104_72, ↓w104_73, ↓w104_76, ↓w104_77, ↓w104_78, ↓w104_80, ↓w104_83, ↓w104_86, ↓w104_89, ↓w104_90, ↓w104_93, ↓w104_96, ↓w104_97, rc65, g65_0, g65_1, p65_1, g65_2, g65_3, g65_4, g65_5, g65_6, g65_7, p65_7, gl70, sl70, hk, hsub, ↓hof, ↓hpu, hnx, ↓kc_i, ↓kc_l, ↓kc_r, ↓kc_n, mul8, mul8', mul4, mul4', nI_add, inT, nclN, ltT, ltF, leT, leF, eqT, eqF, nzF, m1F, m1T, shr, shg, bI0, bI1, bo_bI, bo_1, bo_0, eq10, eq00, frT1, frT2, frT3, fit0, fit1, fit2, fit3, true_and, and_true, ↓reduceIte, Nat.reduceAdd, Nat.reduceMul, and_self, not_false_eq_true, not_true_eq_false, Nat.zero_add, Nat.add_zero]
  · have hkd : kdB g n b = 4 := by unfold kdB; rw [if_neg (by omega), if_pos hL, if_neg h8]
    have hwd : wdB g n b = 29 := by unfold wdB; rw [if_neg (by rw [hkd]; decide)]
    have hpu := fun P => k_put (L := L) (xs := xs) (d := d) (P := P) (I := I) (J := st J 70 (vp_updL (J 70) k (lN (vbo 32 96 g b (wlB g n b))))) (R := R) (Z := Z) (s := 1) (p := b) (w := 29) hk hk2 (by decide)
    refine ⟨_, _, _, ⟨tkF_putJ (u := lN (vbo 32 96 g b (wlB g n b))) (s := 1) (p := b) (w := 29), ?_⟩, fun P => ?_⟩
    · refine ⟨by rw [putI_67, upd_eq, hkd]; rfl, by rw [putI_68, upd_eq], by rw [st_eq, va_up_self, hwd], fun z => ?_, fun z => ?_, fun z => ?_⟩ <;> (rw [hkd] at z; cases z)
    · have hsub : nI (b + wlB g n b) - nI b = nI (wlB g n b) := by rw [nI_dif (by omega), show b + wlB g n b - b = wlB g n b by omega]
      have hw2 : wlB g n b ≤ 1000 := by omega
      simp (discharger := omega) only [↓w104_0, ↓w104_1, ↓w104_2, ↓w104_3, ↓w104_5, ↓w104_6, ↓w104_9, ↓w104_12, ↓w104_13, ↓w104_16, ↓w104_17, ↓w104_18, ↓w104_21, ↓w104_24, ↓w104_25, ↓w104_26, ↓w104_29, ↓w104_30, ↓w104_31, ↓w104_34, ↓w104_35, ↓w104_38, ↓w104_42, ↓w104_45, ↓w104_46, ↓w104_49, ↓w104_50, ↓w104_51, ↓w104_52, ↓w104_53, ↓w104_54, ↓w104_56, ↓w104_59, ↓w104_60, ↓w104_63, ↓w104_64, ↓w104_66, ↓w104_67, ↓w104_69, ↓w104_72, ↓w104_73, ↓w104_76, ↓w104_77, ↓w104_78, ↓w104_80, ↓w104_83, ↓w104_86, ↓w104_89, ↓w104_90, ↓w104_93, ↓w104_96, ↓w104_97, ↓key2, ↓hex, mul8, mul8', mul4, mul4', nI_add, inT, nclN, ltT, ltF, leT, leF, eqT, eqF, nzF, m1F, m1T, shr, shg, bI0, bI1, bo_bI, bo_1, bo_0, eq10, eq00, frT1, frT2, frT3, fit0, fit1, fit2, fit3, true_and, and_true, ↓reduceIte, Nat.reduceAdd, Nat.reduceMul, and_self, not_false_eq_true, not_true_eq_false, Nat.zero_add, Nat.add_zero]
      simp (discharger := omega) only [↓w104_0, ↓w104_1, ↓w104_2, ↓w104_3, ↓w104_5, ↓w104_6, ↓w104_9, ↓w104_12, ↓w104_13, ↓w104_16, ↓w104_17, ↓w104_18, ↓w104_21, ↓w104_24, ↓w104_25, ↓w104_26, ↓w104_29, ↓w104_30, ↓w104_31, ↓w104_34, ↓w104_35, ↓w104_38, ↓w104_41, ↓w104_42, ↓w104_45, ↓w104_46, ↓w104_49, ↓w104_50, ↓w104_51, ↓w104_52, ↓w104_53, ↓w104_54, ↓w104_56, ↓w104_59, ↓w104_60, ↓w104_63, ↓w104_64, ↓w104_66, ↓w104_67, ↓w104_69, ↓w104_72, ↓w104_73, ↓w104_76, ↓w104_77, ↓w104_78, ↓w104_80, ↓w104_83, ↓w104_86, ↓w104_89, ↓w104_90, ↓w104_93, ↓w104_96, ↓w104_97, rc65, g65_0, g65_1, p65_1, g65_2, g65_3, g65_4, g65_5, g65_6, g65_7, p65_7, gl70, sl70, hk, hsub, ↓hpu, hnx, ↓kc_i, ↓kc_l, ↓kc_r, ↓kc_n, mul8, mul8', mul4, mul4', nI_add, inT, nclN, ltT, ltF, leT, leF, eqT, eqF, nzF, m1F, m1T, shr, shg, bI0, bI1, bo_bI, bo_1, bo_0, eq10, eq00, frT1, frT2, frT3, fit0, fit1, fit2, fit3, true_and, and_true, ↓reduceIte, Nat.reduceAdd, Nat.reduceMul, and_self, not_false_eq_true, not_true_eq_false, Nat.zero_add, Nat.add_zero]
theorem k_cutNumber (hl : I 65 1 = nI n) (hn : n ≤ 1000) (hs : sgT I g n) (hk : I 65 7 = nI k) (hk2 : k < 1001) (hb : b < n) (hL : isL (g b) = false) (hD : isD (g b) = true) : ∃ I' J' R', (tkF I J R I' J' R' k ∧ tkB I' J' R' g n b k) ∧ ∀ P, Wp L xs (d+1) 105 0 [some (.ref (65)), some (.int (nI b)), none, none] [] (mk I J R Z) P = P (some (.int (nI (nxB g n b)))) (mk I' J' R' Z) := by
  have hE : rnn isD g n b = b + dlB g n b := by
    have := rnn_ge (Q := isD) (g := g) (n := n) (p := b) (by omega)
    unfold dlB; omega
  have hEn : b + dlB g n b ≤ n := hE ▸ rnn_le (Q := isD) (g := g) (n := n) (p := b) (by omega)
  have hL' : ¬ isL (g b) = true := by rw [hL]; decide
  have hnx : nxB g n b = b + dlB g n b := by unfold nxB; rw [if_neg (by omega), if_neg hL', if_pos hD, hE]
  have m10 : ∀ x, nI x * nI 10 = nI (x * 10) := fun x => pk_mul _ _
  have key : ∀ P, ∀ m, m ≤ dlB g n b → Wp L xs (d+1) 105 4 [some (.ref (65)), some (.int (nI b)), some (.int (nI b)), some (.int (nI 0))] [] (mk I J R Z) P = Wp L xs (d+1) 105 4 [some (.ref (65)), some (.int (nI b)), some (.int (nI (b + m))), some (.int (nI (vbo 10 48 g b m)))] [] (mk I J R Z) P := by
    intro P m
    induction m with
    | zero => intro _; exact Eq.refl _
    | succ m ih =>
      intro hm
      rw [ih (by omega)]
      refine w105_4.trans ?_
      obtain ⟨hc, hc2⟩ := hs (b + m) (by omega)
      have hc3 := okc_lt hc2
      have hl1 : isD (g (b + m)) = true := rnn_in (Q := isD) (g := g) (n := n) (p := b) (by omega) (by omega) (by omega)
      have hl2 := isD_lt hl1
      have hsb : nI (g (b + m)) - nI 48 = nI (g (b + m) - 48) := nI_dif hl2.1
      simp (discharger := omega) only [↓w105_0, ↓w105_1, ↓w105_2, ↓w105_3, ↓w105_5, ↓w105_6, ↓w105_9, ↓w105_12, ↓w105_13, ↓w105_16, ↓w105_17, ↓w105_18, ↓w105_21, ↓w105_24, ↓w105_25, ↓w105_27, ↓w105_28, ↓w105_29, ↓w105_32, ↓w105_33, ↓w105_34, ↓w105_36, ↓w105_37, ↓w105_38, ↓w105_39, ↓w105_42, ↓w105_45, ↓w105_46, ↓w105_49, ↓w105_50, ↓w105_53, ↓w105_54, ↓w105_55, ↓w105_56, ↓w105_57, ↓w105_58, ↓w105_59, ↓w105_60, ↓w105_63, ↓w105_64, ↓w105_67, ↓w105_68, ↓w105_69, ↓w105_72, ↓w105_75, ↓w105_76, rc65, g65_0, g65_1, p65_1, g65_2, g65_3, g65_4, g65_5, g65_6, g65_7, p65_7, gi66, si66, hl, hc, ↓k_isDigit, hl1, bI_t, hsb, m10, ↓kc_i, ↓kc_l, ↓kc_r, ↓kc_n, mul8, mul8', mul4, mul4', nI_add, inT, nclN, ltT, ltF, leT, leF, eqT, eqF, nzF, m1F, m1T, shr, shg, bI0, bI1, bo_bI, bo_1, bo_0, eq10, eq00, frT1, frT2, frT3, fit0, fit1, fit2, fit3, true_and, and_true, ↓reduceIte, Nat.reduceAdd, Nat.reduceMul, and_self, not_false_eq_true, not_true_eq_false, Nat.zero_add, Nat.add_zero]
      exact Eq.refl _
  have key2 := fun P => key P (dlB g n b) (Nat.le_refl _)
  have hex : ∀ P, Wp L xs (d+1) 105 4 [some (.ref (65)), some (.int (nI b)), some (.int (nI (b + dlB g n b))), some (.int (nI (vbo 10 48 g b (dlB g n b))))] [] (mk I J R Z) P = Wp L xs (d+1) 105 45 [some (.ref (65)), some (.int (nI b)), some (.int (nI (b + dlB g n b))), some (.int (nI (vbo 10 48 g b (dlB g n b))))] [] (mk I J R Z) P := by
    intro P
    refine w105_4.trans ?_
    by_cases he : b + dlB g n b = n
    · simp (discharger := omega) only [↓w105_0, ↓w105_1, ↓w105_2, ↓w105_3, ↓w105_5, ↓w105_6, ↓w105_9, ↓w105_12, ↓w105_13, ↓w105_16, ↓w105_17, ↓w105_18, ↓w105_21, ↓w105_24, ↓w105_25, ↓w105_27, ↓w105_28, ↓w105_29, ↓w105_32, ↓w105_33, ↓w105_34, ↓w105_36, ↓w105_37, ↓w105_38, ↓w105_39, ↓w105_42, ↓w105_46, ↓w105_49, ↓w105_50, ↓w105_53, ↓w105_54, ↓w105_55, ↓w105_56, ↓w105_57, ↓w105_58, ↓w105_59, ↓w105_60, ↓w105_63, ↓w105_64, ↓w105_67, ↓w105_68, ↓w105_69, ↓w105_72, ↓w105_75, ↓w105_76, rc65, g65_0, g65_1, p65_1, g65_2, g65_3, g65_4, g65_5, g65_6, g65_7, p65_7, gi66, si66, hl, mul8, mul8', mul4, mul4', nI_add, inT, nclN, ltT, ltF, leT, leF, eqT, eqF, nzF, m1F, m1T, shr, shg, bI0, bI1, bo_bI, bo_1, bo_0, eq10, eq00, frT1, frT2, frT3, fit0, fit1, fit2, fit3, true_and, and_true, ↓reduceIte, Nat.reduceAdd, Nat.reduceMul, and_self, not_false_eq_true, not_true_eq_false, Nat.zero_add, Nat.add_zero]
    · obtain ⟨hc, hc2⟩ := hs (b + dlB g n b) (by omega)
      have hc3 := okc_lt hc2
      have hl1 : isD (g (b + dlB g n b)) = false := hE ▸ rnn_at (Q := isD) (g := g) (n := n) (p := b) (by omega) (by omega)
      simp (discharger := omega) only [↓w105_0, ↓w105_1, ↓w105_2, ↓w105_3, ↓w105_5, ↓w105_6, ↓w105_9, ↓w105_12, ↓w105_13, ↓w105_16, ↓w105_17, ↓w105_18, ↓w105_21, ↓w105_24, ↓w105_25, ↓w105_27, ↓w105_28, ↓w105_29, ↓w105_32, ↓w105_33, ↓w105_34, ↓w105_36, ↓w105_37, ↓w105_38, ↓w105_39, ↓w105_42, ↓w105_46, ↓w105_49, ↓w105_50, ↓w105_53, ↓w105_54, ↓w105_55, ↓w105_56, ↓w105_57, ↓w105_58, ↓w105_59, ↓w105_60, ↓w105_63, ↓w105_64, ↓w105_67, ↓w105_68, ↓w105_69, ↓w105_72, ↓w105_75, ↓w105_76, rc65, g65_0, g65_1, p65_1, g65_2, g65_3, g65_4, g65_5, g65_6, g65_7, p65_7, gi66, si66, hl, hc, ↓k_isDigit, hl1, bI_f, ↓kc_i, ↓kc_l, ↓kc_r, ↓kc_n, mul8, mul8', mul4, mul4', nI_add, inT, nclN, ltT, ltF, leT, leF, eqT, eqF, nzF, m1F, m1T, shr, shg, bI0, bI1, bo_bI, bo_1, bo_0, eq10, eq00, frT1, frT2, frT3, fit0, fit1, fit2, fit3, true_and, and_true, ↓reduceIte, Nat.reduceAdd, Nat.reduceMul, and_self, not_false_eq_true, not_true_eq_false, Nat.zero_add, Nat.add_zero]
  have hsub : nI (b + dlB g n b) - nI b = nI (dlB g n b) := by rw [nI_dif (by omega), show b + dlB g n b - b = dlB g n b by omega]
  have hw2 : dlB g n b ≤ 1000 := by omega
  have hwd : wdB g n b = 29 := by unfold wdB; rw [if_neg (fun z => ?_)]; unfold kdB at z; rw [if_neg (by omega), if_neg hL', if_pos hD] at z; split at z <;> cases z
  generalize hv : vbo 10 48 g b (dlB g n b) = v at *
  have h7 : st I 69 (upd (I 69) k (nI v)) 65 7 = nI k := by rw [st_ne (by decide), hk]
  by_cases h8 : dlB g n b ≤ 4
  · have hkd : kdB g n b = 2 := by unfold kdB; rw [if_neg (by omega), if_neg hL', if_pos hD, if_pos h8]
    have hpu := fun P => k_put (L := L) (xs := xs) (d := d) (P := P) (I := st I 69 (upd (I 69) k (nI v))) (J := J) (R := R) (Z := Z) (s := 2) (p := b) (w := 29) h7 hk2 (by decide)
    refine ⟨_, _, _, ⟨tkF_putI (v := nI v) (s := 2) (p := b) (w := 29), ?_⟩, fun P => ?_⟩
    · refine ⟨by rw [putI_67, upd_eq, hkd]; rfl, by rw [putI_68, upd_eq], by rw [st_eq, va_up_self, hwd], fun _ => by rw [putI_ne (by decide) (by decide) (by decide), st_eq, upd_eq, hv], fun z => ?_, fun z => ?_⟩ <;> (rw [hkd] at z; cases z)
    · simp (discharger := omega) only [↓w105_0, ↓w105_1, ↓w105_2, ↓w105_3, ↓w105_5, ↓w105_6, ↓w105_9, ↓w105_12, ↓w105_13, ↓w105_16, ↓w105_17, ↓w105_18, ↓w105_21, ↓w105_24, ↓w105_25, ↓w105_27, ↓w105_28, ↓w105_29, ↓w105_32, ↓w105_33, ↓w105_34, ↓w105_36, ↓w105_37, ↓w105_38, ↓w105_39, ↓w105_42, ↓w105_46, ↓w105_49, ↓w105_50, ↓w105_53, ↓w105_54, ↓w105_55, ↓w105_56, ↓w105_57, ↓w105_58, ↓w105_59, ↓w105_60, ↓w105_63, ↓w105_64, ↓w105_67, ↓w105_68, ↓w105_69, ↓w105_72, ↓w105_75, ↓w105_76, ↓key2, ↓hex, mul8, mul8', mul4, mul4', nI_add, inT, nclN, ltT, ltF, leT, leF, eqT, eqF, nzF, m1F, m1T, shr, shg, bI0, bI1, bo_bI, bo_1, bo_0, eq10, eq00, frT1, frT2, frT3, fit0, fit1, fit2, fit3, true_and, and_true, ↓reduceIte, Nat.reduceAdd, Nat.reduceMul, and_self, not_false_eq_true, not_true_eq_false, Nat.zero_add, Nat.add_zero]
      simp (discharger := omega) only [↓w105_0, ↓w105_1, ↓w105_2, ↓w105_3, ↓w105_5, ↓w105_6, ↓w105_9, ↓w105_12, ↓w105_13, ↓w105_16, ↓w105_17, ↓w105_18, ↓w105_21, ↓w105_24, ↓w105_25, ↓w105_27, ↓w105_28, ↓w105_29, ↓w105_32, ↓w105_33, ↓w105_34, ↓w105_36, ↓w105_37, ↓w105_38, ↓w105_39, ↓w105_42, ↓w105_45, ↓w105_46, ↓w105_49, ↓w105_50, ↓w105_53, ↓w105_54, ↓w105_55, ↓w105_56, ↓w105_57, ↓w105_58, ↓w105_59, ↓w105_60, ↓w105_63, ↓w105_64, ↓w105_67, ↓w105_68, ↓w105_69, ↓w105_72, ↓w105_75, ↓w105_76, rc65, g65_0, g65_1, p65_1, g65_2, g65_3, g65_4, g65_5, g65_6, g65_7, p65_7, gi69, si69, hk, hsub, ↓hpu, hnx, ↓kc_i, ↓kc_l, ↓kc_r, ↓kc_n, mul8, mul8', mul4, mul4', nI_add, inT, nclN, ltT, ltF, leT, leF, eqT, eqF, nzF, m1F, m1T, shr, shg, bI0, bI1, bo_bI, bo_1, bo_0, eq10, eq00, frT1, frT2, frT3, fit0, fit1, fit2, fit3, true_and, and_true, ↓reduceIte, Nat.reduceAdd, Nat.reduceMul, and_self, not_false_eq_true, not_true_eq_false, Nat.zero_add, Nat.add_zero]
  · have hkd : kdB g n b = 4 := by unfold kdB; rw [if_neg (by omega), if_neg hL', if_pos hD, if_neg h8]
    have hpu := fun P => k_put (L := L) (xs := xs) (d := d) (P := P) (I := st I 69 (upd (I 69) k (nI v))) (J := J) (R := R) (Z := Z) (s := 1) (p := b) (w := 29) h7 hk2 (by decide)
    refine ⟨_, _, _, ⟨tkF_putI (v := nI v) (s := 1) (p := b) (w := 29), ?_⟩, fun P => ?_⟩
    · refine ⟨by rw [putI_67, upd_eq, hkd]; rfl, by rw [putI_68, upd_eq], by rw [st_eq, va_up_self, hwd], fun z => ?_, fun z => ?_, fun z => ?_⟩ <;> (rw [hkd] at z; cases z)
    · simp (discharger := omega) only [↓w105_0, ↓w105_1, ↓w105_2, ↓w105_3, ↓w105_5, ↓w105_6, ↓w105_9, ↓w105_12, ↓w105_13, ↓w105_16, ↓w105_17, ↓w105_18, ↓w105_21, ↓w105_24, ↓w105_25, ↓w105_27, ↓w105_28, ↓w105_29, ↓w105_32, ↓w105_33, ↓w105_34, ↓w105_36, ↓w105_37, ↓w105_38, ↓w105_39, ↓w105_42, ↓w105_46, ↓w105_49, ↓w105_50, ↓w105_53, ↓w105_54, ↓w105_55, ↓w105_56, ↓w105_57, ↓w105_58, ↓w105_59, ↓w105_60, ↓w105_63, ↓w105_64, ↓w105_67, ↓w105_68, ↓w105_69, ↓w105_72, ↓w105_75, ↓w105_76, ↓key2, ↓hex, mul8, mul8', mul4, mul4', nI_add, inT, nclN, ltT, ltF, leT, leF, eqT, eqF, nzF, m1F, m1T, shr, shg, bI0, bI1, bo_bI, bo_1, bo_0, eq10, eq00, frT1, frT2, frT3, fit0, fit1, fit2, fit3, true_and, and_true, ↓reduceIte, Nat.reduceAdd, Nat.reduceMul, and_self, not_false_eq_true, not_true_eq_false, Nat.zero_add, Nat.add_zero]
      simp (discharger := omega) only [↓w105_0, ↓w105_1, ↓w105_2, ↓w105_3, ↓w105_5, ↓w105_6, ↓w105_9, ↓w105_12, ↓w105_13, ↓w105_16, ↓w105_17, ↓w105_18, ↓w105_21, ↓w105_24, ↓w105_25, ↓w105_27, ↓w105_28, ↓w105_29, ↓w105_32, ↓w105_33, ↓w105_34, ↓w105_36, ↓w105_37, ↓w105_38, ↓w105_39, ↓w105_42, ↓w105_45, ↓w105_46, ↓w105_49, ↓w105_50, ↓w105_53, ↓w105_54, ↓w105_55, ↓w105_56, ↓w105_57, ↓w105_58, ↓w105_59, ↓w105_60, ↓w105_63, ↓w105_64, ↓w105_67, ↓w105_68, ↓w105_69, ↓w105_72, ↓w105_75, ↓w105_76, rc65, g65_0, g65_1, p65_1, g65_2, g65_3, g65_4, g65_5, g65_6, g65_7, p65_7, gi69, si69, hk, hsub, ↓hpu, hnx, ↓kc_i, ↓kc_l, ↓kc_r, ↓kc_n, mul8, mul8', mul4, mul4', nI_add, inT, nclN, ltT, ltF, leT, leF, eqT, eqF, nzF, m1F, m1T, shr, shg, bI0, bI1, bo_bI, bo_1, bo_0, eq10, eq00, frT1, frT2, frT3, fit0, fit1, fit2, fit3, true_and, and_true, ↓reduceIte, Nat.reduceAdd, Nat.reduceMul, and_self, not_false_eq_true, not_true_eq_false, Nat.zero_add, Nat.add_zero]
def lt8 (j : Nat) : Nat := [40, 41, 60, 61, 43, 45, 42, 59].getD j 0
theorem lit_at : ∀ j, j < 8 → ip_lit.getD j 0 = nI (lt8 j) := by decide +kernel
theorem lt8_lt : ∀ j, j < 8 → lt8 j < 127 := by decide +kernel
theorem gi33 {K : Int32 → Prop} (hi : i < 8) : gi L xs h 3 33 (nI i) K = K (nI (lt8 i)) := by
  unfold gi; rw [if_neg (by decide), if_pos ⟨rfl, rfl⟩, ip_inN hi (by decide), nI_clamp (by omega), lit_at i hi]; simp
theorem al33 {K : Int32 → Prop} : al L h 33 K = K (nI 8) := by unfold al; rw [if_neg (by decide), if_neg (by decide), if_pos rfl]; rfl
theorem i2b : ∀ c, c < 127 → (nI c).toInt8.toInt32 = nI c := by decide +kernel
theorem rc32 {l : List Value} : ip_rc h 17 (.ref 32 :: l) = true := rfl
theorem sh8 : nI 8 >>> ((0 : Int32) &&& nI 31) = nI 8 := by decide
theorem ix_lt : ∀ c, c < 127 → (oN (ff 8 (fun j => decide (lt8 j = c))) < nI 0 ↔ iSg c = false) := by decide +kernel
theorem e10 : ((1 : Int32) = nI 0) = False := by decide
theorem e00 : ((0 : Int32) = nI 0) = True := by decide
theorem bo1 : (bo (1 : Int32) = true) = True := by decide
theorem mx00 : mx (nI 0) (nI 0) = nI 0 := by decide
theorem mn88 : mn (nI 8) (nI 8) = nI 8 := by decide
theorem k_indexOfChar (hc : c < 127) : Wp L xs d 321 0 [some (.ref (33)), some (.int (nI c)), some (.int (nI 0)), some (.int (nI 8)), none, none] [] (mk I J R Z) P = P (some (.int (oN (ff 8 (fun j => decide (lt8 j = c)))))) (mk I J R Z) := by
  simp (discharger := omega) only [↓w321_0, ↓w321_1, ↓w321_2, ↓w321_4, ↓w321_5, ↓w321_9, ↓w321_10, ↓w321_13, ↓w321_14, ↓w321_16, ↓w321_17, ↓w321_19, ↓w321_22, ↓w321_24, ↓w321_25, ↓w321_28, ↓w321_31, ↓w321_32, i2b c hc, mul8, mul8', mul4, mul4', nI_add, inT, nclN, ltT, ltF, leT, leF, eqT, eqF, nzF, m1F, m1T, shr, shg, bI0, bI1, bo_bI, bo_1, bo_0, eq10, eq00, frT1, frT2, frT3, fit0, fit1, fit2, fit3, true_and, and_true, ↓reduceIte, Nat.reduceAdd, Nat.reduceMul, and_self, not_false_eq_true, not_true_eq_false, Nat.zero_add, Nat.add_zero]
  refine ff_anyN (T := Unit) (F := fun i _ => Wp L xs d 321 7 [some (.ref (33)), some (.int (nI c)), some (.int (nI 0)), some (.int (nI 8)), some (.int (nI c)), some (.int (nI i))] [] (mk I J R Z) P) (p := fun j => decide (lt8 j = c)) (G := fun x => P (some (.int x)) (mk I J R Z)) 8 ?_ ?_ ()
  · intro i _ hi
    refine ⟨(), w321_7.trans ?_⟩
    have h1 := lt8_lt i hi
    have h2 : (nI (lt8 i) = nI c) = (lt8 i = c) := propext (nI_eq (by omega) (by omega))
    simp (discharger := omega) only [↓w321_0, ↓w321_1, ↓w321_2, ↓w321_4, ↓w321_5, ↓w321_9, ↓w321_10, ↓w321_13, ↓w321_14, ↓w321_16, ↓w321_17, ↓w321_19, ↓w321_22, ↓w321_24, ↓w321_25, ↓w321_28, ↓w321_31, ↓w321_32, gi33 hi, h2, mul8, mul8', mul4, mul4', nI_add, inT, nclN, ltT, ltF, leT, leF, eqT, eqF, nzF, m1F, m1T, shr, shg, bI0, bI1, bo_bI, bo_1, bo_0, eq10, eq00, frT1, frT2, frT3, fit0, fit1, fit2, fit3, true_and, and_true, ↓reduceIte, Nat.reduceAdd, Nat.reduceMul, and_self, not_false_eq_true, not_true_eq_false, Nat.zero_add, Nat.add_zero]
    by_cases q : lt8 i = c <;> simp [q]
  · intro _
    refine w321_7.trans ?_
    simp (discharger := omega) only [↓w321_0, ↓w321_1, ↓w321_2, ↓w321_4, ↓w321_5, ↓w321_9, ↓w321_10, ↓w321_13, ↓w321_14, ↓w321_16, ↓w321_17, ↓w321_19, ↓w321_22, ↓w321_24, ↓w321_25, ↓w321_28, ↓w321_31, ↓w321_32, mul8, mul8', mul4, mul4', nI_add, inT, nclN, ltT, ltF, leT, leF, eqT, eqF, nzF, m1F, m1T, shr, shg, bI0, bI1, bo_bI, bo_1, bo_0, eq10, eq00, frT1, frT2, frT3, fit0, fit1, fit2, fit3, true_and, and_true, ↓reduceIte, Nat.reduceAdd, Nat.reduceMul, and_self, not_false_eq_true, not_true_eq_false, Nat.zero_add, Nat.add_zero]
theorem k_indexOf (hc : c < 127) : Wp L xs (d+4) 314 0 [some (.ref (32)), some (.int (nI c))] [] (mk I J R Z) P = P (some (.int (oN (ff 8 (fun j => decide (lt8 j = c)))))) (mk I J R Z) := by
  have h1 := fun d P => k_indexOfChar (L := L) (xs := xs) (d := d) (P := P) (I := I) (J := J) (R := R) (Z := Z) hc
  simp (discharger := omega) only [↓w314_0, ↓w314_1, ↓w314_2, ↓w314_3, ↓w314_6, ↓w315_0, ↓w315_1, ↓w315_4, ↓w315_7, ↓w315_8, ↓w315_11, ↓w315_12, ↓w315_13, ↓w315_14, ↓w315_17, ↓w315_20, ↓w315_23, ↓w315_24, ↓w315_27, ↓w315_28, ↓w315_29, ↓w315_30, ↓w315_36, ↓w316_0, ↓w316_1, ↓w316_4, ↓w316_5, ↓w316_6, ↓w316_9, ↓w316_10, ↓w317_0, ↓w317_3, ↓w317_6, ↓w317_7, ↓w317_10, ↓w317_13, ↓w317_14, ↓w318_0, ↓w318_3, ↓w318_6, ↓w318_7, ↓w318_10, ↓w318_13, ↓w318_14, ↓w318_17, ↓w318_18, ↓w319_0, ↓w319_1, ↓w319_4, ↓w319_5, ↓w319_8, ↓w319_11, ↓w319_12, ↓w319_15, ↓w319_16, ↓w320_0, ↓w320_1, ↓w320_4, ↓w320_7, ↓w320_8, ↓w320_9, ↓w320_10, ↓w320_11, ↓w320_14, ↓w320_15, ↓w320_16, ↓w320_17, ↓w320_18, ↓w320_21, ↓w320_22, ↓w320_23, ↓w320_24, ↓w320_27, ↓w320_28, ↓w320_29, ↓w320_30, ↓w320_31, ↓w320_32, ↓w320_33, ↓w320_36, rc32, al33, sh8, e10, e00, bo1, mx00, mn88, ↓h1, ↓kc_i, ↓kc_l, ↓kc_r, ↓kc_n, mul8, mul8', mul4, mul4', nI_add, inT, nclN, ltT, ltF, leT, leF, eqT, eqF, nzF, m1F, m1T, shr, shg, bI0, bI1, bo_bI, bo_1, bo_0, eq10, eq00, frT1, frT2, frT3, fit0, fit1, fit2, fit3, true_and, and_true, ↓reduceIte, Nat.reduceAdd, Nat.reduceMul, and_self, not_false_eq_true, not_true_eq_false, Nat.zero_add, Nat.add_zero]
theorem k_cutToken (hl : I 65 1 = nI n) (hn : n ≤ 1000) (hs : sgT I g n) (hk : I 65 7 = nI k) (hk2 : k < 1001) (hb : b < n) : ∃ I' J' R', (tkF I J R I' J' R' k ∧ tkB I' J' R' g n b k) ∧ ∀ P, Wp L xs (d+5) 103 0 [some (.ref (65)), some (.int (nI b)), none] [] (mk I J R Z) P = P (some (.int (nI (nxB g n b)))) (mk I' J' R' Z) := by
  obtain ⟨hc, hc2⟩ := hs b hb
  have hc3 := okc_lt hc2
  by_cases hL : isL (g b) = true
  · obtain ⟨I', J', R', h1, h2⟩ := k_cutWord (L := L) (xs := xs) (d := d + 3) (J := J) (R := R) (Z := Z) hl hn hs hk hk2 hb hL
    refine ⟨I', J', R', h1, fun P => ?_⟩
    simp (discharger := omega) only [↓w103_0, ↓w103_1, ↓w103_4, ↓w103_5, ↓w103_6, ↓w103_7, ↓w103_8, ↓w103_11, ↓w103_14, ↓w103_15, ↓w103_16, ↓w103_19, ↓w103_20, ↓w103_21, ↓w103_24, ↓w103_27, ↓w103_28, ↓w103_29, ↓w103_32, ↓w103_33, ↓w103_34, ↓w103_37, ↓w103_38, ↓w103_41, ↓w103_42, ↓w103_43, ↓w103_44, ↓w103_46, ↓w103_47, ↓w103_50, ↓w103_53, ↓w103_54, ↓w103_57, ↓w103_58, ↓w103_59, ↓w103_62, ↓w103_65, ↓w103_66, ↓w103_67, ↓w103_68, rc65, g65_0, g65_1, p65_1, g65_2, g65_3, g65_4, g65_5, g65_6, g65_7, p65_7, gi66, si66, hc, ↓k_isLetter, hL, bI_t, ↓h2, ↓kc_i, ↓kc_l, ↓kc_r, ↓kc_n, mul8, mul8', mul4, mul4', nI_add, inT, nclN, ltT, ltF, leT, leF, eqT, eqF, nzF, m1F, m1T, shr, shg, bI0, bI1, bo_bI, bo_1, bo_0, eq10, eq00, frT1, frT2, frT3, fit0, fit1, fit2, fit3, true_and, and_true, ↓reduceIte, Nat.reduceAdd, Nat.reduceMul, and_self, not_false_eq_true, not_true_eq_false, Nat.zero_add, Nat.add_zero]
  · have hL' := Bool.eq_false_iff.mpr hL
    by_cases hD : isD (g b) = true
    · obtain ⟨I', J', R', h1, h2⟩ := k_cutNumber (L := L) (xs := xs) (d := d + 3) (J := J) (R := R) (Z := Z) hl hn hs hk hk2 hb hL' hD
      refine ⟨I', J', R', h1, fun P => ?_⟩
      simp (discharger := omega) only [↓w103_0, ↓w103_1, ↓w103_4, ↓w103_5, ↓w103_6, ↓w103_7, ↓w103_8, ↓w103_11, ↓w103_14, ↓w103_15, ↓w103_16, ↓w103_19, ↓w103_20, ↓w103_21, ↓w103_24, ↓w103_27, ↓w103_28, ↓w103_29, ↓w103_32, ↓w103_33, ↓w103_34, ↓w103_37, ↓w103_38, ↓w103_41, ↓w103_42, ↓w103_43, ↓w103_44, ↓w103_46, ↓w103_47, ↓w103_50, ↓w103_53, ↓w103_54, ↓w103_57, ↓w103_58, ↓w103_59, ↓w103_62, ↓w103_65, ↓w103_66, ↓w103_67, ↓w103_68, rc65, g65_0, g65_1, p65_1, g65_2, g65_3, g65_4, g65_5, g65_6, g65_7, p65_7, gi66, si66, hc, ↓k_isLetter, ↓k_isDigit, hL', hD, bI_t, bI_f, ↓h2, ↓kc_i, ↓kc_l, ↓kc_r, ↓kc_n, mul8, mul8', mul4, mul4', nI_add, inT, nclN, ltT, ltF, leT, leF, eqT, eqF, nzF, m1F, m1T, shr, shg, bI0, bI1, bo_bI, bo_1, bo_0, eq10, eq00, frT1, frT2, frT3, fit0, fit1, fit2, fit3, true_and, and_true, ↓reduceIte, Nat.reduceAdd, Nat.reduceMul, and_self, not_false_eq_true, not_true_eq_false, Nat.zero_add, Nat.add_zero]
    · have hD' := Bool.eq_false_iff.mpr hD
      have hnx : nxB g n b = b + 1 := by unfold nxB; rw [if_neg (by omega), if_neg hL, if_neg hD]
      have hix := fun P => k_indexOf (L := L) (xs := xs) (d := d) (P := P) (I := st I 69 (upd (I 69) k (nI (g b)))) (J := J) (R := R) (Z := Z) hc3
      have hsi := ix_lt (g b) hc3
      have h7 : st I 69 (upd (I 69) k (nI (g b))) 65 7 = nI k := by rw [st_ne (by decide), hk]
      generalize oN (ff 8 (fun j => decide (lt8 j = g b))) = o at *
      by_cases hS : iSg (g b) = true
      · have hkd : kdB g n b = 3 := by unfold kdB; rw [if_neg (by omega), if_neg hL, if_neg hD, if_pos hS]
        have hwd : wdB g n b = 29 := by unfold wdB; rw [if_neg (by rw [hkd]; decide)]
        have ho : (o < nI 0) = False := eq_false fun z => by rw [hsi.mp z] at hS; cases hS
        have hpu := fun P => k_put (L := L) (xs := xs) (d := d + 4) (P := P) (I := st I 69 (upd (I 69) k (nI (g b)))) (J := J) (R := R) (Z := Z) (s := 4) (p := b) (w := 29) h7 hk2 (by decide)
        refine ⟨_, _, _, ⟨tkF_putI (v := nI (g b)) (s := 4) (p := b) (w := 29), ?_⟩, fun P => ?_⟩
        · refine ⟨by rw [putI_67, upd_eq, hkd]; rfl, by rw [putI_68, upd_eq], by rw [st_eq, va_up_self, hwd], fun z => ?_, fun _ => by rw [putI_ne (by decide) (by decide) (by decide), st_eq, upd_eq], fun z => ?_⟩ <;> (rw [hkd] at z; cases z)
        · simp (discharger := omega) only [↓w103_0, ↓w103_1, ↓w103_4, ↓w103_5, ↓w103_6, ↓w103_7, ↓w103_8, ↓w103_11, ↓w103_14, ↓w103_15, ↓w103_16, ↓w103_19, ↓w103_20, ↓w103_21, ↓w103_24, ↓w103_27, ↓w103_28, ↓w103_29, ↓w103_32, ↓w103_33, ↓w103_34, ↓w103_37, ↓w103_38, ↓w103_41, ↓w103_42, ↓w103_43, ↓w103_44, ↓w103_46, ↓w103_47, ↓w103_50, ↓w103_53, ↓w103_54, ↓w103_57, ↓w103_58, ↓w103_59, ↓w103_62, ↓w103_65, ↓w103_66, ↓w103_67, ↓w103_68, rc65, g65_0, g65_1, p65_1, g65_2, g65_3, g65_4, g65_5, g65_6, g65_7, p65_7, gi66, si66, gi69, si69, hc, hk, ↓k_isLetter, ↓k_isDigit, hL', hD', bI_f, rc32, ↓hix, ho, ↓hpu, hnx, ↓kc_i, ↓kc_l, ↓kc_r, ↓kc_n, mul8, mul8', mul4, mul4', nI_add, inT, nclN, ltT, ltF, leT, leF, eqT, eqF, nzF, m1F, m1T, shr, shg, bI0, bI1, bo_bI, bo_1, bo_0, eq10, eq00, frT1, frT2, frT3, fit0, fit1, fit2, fit3, true_and, and_true, ↓reduceIte, Nat.reduceAdd, Nat.reduceMul, and_self, not_false_eq_true, not_true_eq_false, Nat.zero_add, Nat.add_zero]
      · have hkd : kdB g n b = 4 := by unfold kdB; rw [if_neg (by omega), if_neg hL, if_neg hD, if_neg hS]
        have hwd : wdB g n b = 29 := by unfold wdB; rw [if_neg (by rw [hkd]; decide)]
        have ho : (o < nI 0) = True := eq_true (hsi.mpr (Bool.eq_false_iff.mpr hS))
        have hpu := fun P => k_put (L := L) (xs := xs) (d := d + 4) (P := P) (I := st I 69 (upd (I 69) k (nI (g b)))) (J := J) (R := R) (Z := Z) (s := 1) (p := b) (w := 29) h7 hk2 (by decide)
        refine ⟨_, _, _, ⟨tkF_putI (v := nI (g b)) (s := 1) (p := b) (w := 29), ?_⟩, fun P => ?_⟩
        · refine ⟨by rw [putI_67, upd_eq, hkd]; rfl, by rw [putI_68, upd_eq], by rw [st_eq, va_up_self, hwd], fun z => ?_, fun z => ?_, fun z => ?_⟩ <;> (rw [hkd] at z; cases z)
        · simp (discharger := omega) only [↓w103_0, ↓w103_1, ↓w103_4, ↓w103_5, ↓w103_6, ↓w103_7, ↓w103_8, ↓w103_11, ↓w103_14, ↓w103_15, ↓w103_16, ↓w103_19, ↓w103_20, ↓w103_21, ↓w103_24, ↓w103_27, ↓w103_28, ↓w103_29, ↓w103_32, ↓w103_33, ↓w103_34, ↓w103_37, ↓w103_38, ↓w103_41, ↓w103_42, ↓w103_43, ↓w103_44, ↓w103_46, ↓w103_47, ↓w103_50, ↓w103_53, ↓w103_54, ↓w103_57, ↓w103_58, ↓w103_59, ↓w103_62, ↓w103_65, ↓w103_66, ↓w103_67, ↓w103_68, rc65, g65_0, g65_1, p65_1, g65_2, g65_3, g65_4, g65_5, g65_6, g65_7, p65_7, gi66, si66, gi69, si69, hc, hk, ↓k_isLetter, ↓k_isDigit, hL', hD', bI_f, rc32, ↓hix, ho, ↓hpu, hnx, ↓kc_i, ↓kc_l, ↓kc_r, ↓kc_n, mul8, mul8', mul4, mul4', nI_add, inT, nclN, ltT, ltF, leT, leF, eqT, eqF, nzF, m1F, m1T, shr, shg, bI0, bI1, bo_bI, bo_1, bo_0, eq10, eq00, frT1, frT2, frT3, fit0, fit1, fit2, fit3, true_and, and_true, ↓reduceIte, Nat.reduceAdd, Nat.reduceMul, and_self, not_false_eq_true, not_true_eq_false, Nat.zero_add, Nat.add_zero]
/-- what the cut tape holds: T tokens and the end -/
def cutT (I : Mi) (J : Mj) (R : Mr) (g : Nat → Nat) (n T : Nat) : Prop := (∀ i, i < T → kd g n i ≠ 0) ∧ kd g n T = 0 ∧ (∀ i, i ≤ T → tkB I J R g n (bg g n i) i) ∧ I 65 7 = nI (T + 1)
def cutF (I : Mi) (J : Mj) (R : Mr) (I' : Mi) (J' : Mj) (R' : Mr) : Prop := (∀ a, a ≠ 65 → a ≠ 67 → a ≠ 68 → a ≠ 69 → I' a = I a) ∧ (∀ j, j ≠ 7 → I' 65 j = I 65 j) ∧ (∀ a, a ≠ 70 → J' a = J a) ∧ (∀ a, a ≠ 71 → R' a = R a)
theorem tkB_o {I' : Mi} {J' : Mj} {R' : Mr} {j : Nat} (hF : tkF I J R I' J' R' k) (hj : j ≠ k) (hB : tkB I J R g n b j) : tkB I' J' R' g n b j := by
  obtain ⟨e1, e2, e3, e4, e5⟩ := hF.2.2.1 j hj
  unfold tkB
  rw [e1, e2, e3, e4, e5]
  exact hB
theorem cutF_t {I' I2 : Mi} {J' J2 : Mj} {R' R2 : Mr} (hF : tkF I J R I' J' R' k) (hC : cutF I' J' R' I2 J2 R2) : cutF I J R I2 J2 R2 := by
  refine ⟨fun a h1 h2 h3 h4 => (hC.1 a h1 h2 h3 h4).trans (hF.1 a h1 h2 h3 h4), fun j hj => (hC.2.1 j hj).trans (by rw [hF.2.1, upd_ne hj]), fun a ha => (hC.2.2.1 a ha).trans (hF.2.2.2.1 a ha), fun a ha => (hC.2.2.2 a ha).trans (hF.2.2.2.2 a ha)⟩
theorem k_cutLoop (hn : n ≤ 1000) : ∀ m p i k (t : Option Value) (I : Mi) (J : Mj) (R : Mr), n - p ≤ m → i ≤ p → p ≤ n → I 65 1 = nI n → sgT I g n → I 65 7 = nI k → qq g n k ≤ p → rnn isSp g n p = bg g n k → (∀ j, j < k → kd g n j ≠ 0 ∧ tkB I J R g n (bg g n j) j) → ∃ I' J' R' T, (cutF I J R I' J' R' ∧ cutT I' J' R' g n T) ∧ ∀ P, Wp L xs (d+6) 102 9 [some (.ref (65)), some (.int (nI p)), some (.int (nI i)), t] [] (mk I J R Z) P = P none (mk I' J' R' Z) := by
  intro m
  induction m with
  | zero =>
    intro p i k t I J R hm hi hp hl hs hk hq hr hj
    have hpn : p = n := by omega
    subst hpn
    have hk2 : k ≤ p := by
      have := bg_ge (g := g) (n := p) k (fun j h => (hj j h).1)
      have := bg_le (g := g) (n := p) (i := k)
      omega
    rw [rnn_n] at hr
    have hkd : kd g p k = 0 := kd0.mpr hr.symm
    have hpu := fun P => k_put (L := L) (xs := xs) (d := d + 5) (P := P) (I := I) (J := J) (R := R) (Z := Z) (s := 0) (p := p) (w := 29) hk (by omega) (by decide)
    have hF := tkF_putN (I := I) (J := J) (R := R) (k := k) (s := 0) (p := p) (w := 29)
    refine ⟨_, _, _, k, ⟨⟨hF.1, fun j hj => by rw [hF.2.1, upd_ne hj], hF.2.2.2.1, hF.2.2.2.2⟩, fun j h => (hj j h).1, hkd, fun j h => ?_, by rw [putI_65, upd_eq]⟩, fun P => ?_⟩
    · by_cases e : j = k
      · subst e
        rw [← hr]
        have h0 : kdB g p p = 0 := kdB0.mpr rfl
        refine ⟨by rw [putI_67, upd_eq, h0]; rfl, by rw [putI_68, upd_eq], by rw [st_eq, va_up_self]; unfold wdB; rw [if_neg (by rw [h0]; decide)], fun z => ?_, fun z => ?_, fun z => ?_⟩ <;> (rw [h0] at z; cases z)
      · exact tkB_o hF e (hj j (by omega)).2
    · refine w102_9.trans ?_
      by_cases h1 : i = 1000
      · simp (discharger := omega) only [↓w102_0, ↓w102_1, ↓w102_2, ↓w102_5, ↓w102_6, ↓w102_7, ↓w102_8, ↓w102_10, ↓w102_13, ↓w102_16, ↓w102_17, ↓w102_18, ↓w102_21, ↓w102_24, ↓w102_25, ↓w102_28, ↓w102_29, ↓w102_30, ↓w102_31, ↓w102_32, ↓w102_34, ↓w102_37, ↓w102_38, ↓w102_40, ↓w102_43, ↓w102_46, ↓w102_49, ↓w102_50, ↓w102_51, ↓w102_54, ↓w102_55, ↓w102_58, ↓w102_61, ↓w102_62, ↓w102_63, ↓w102_64, ↓w102_67, ↓w102_70, ↓w102_73, rc65, g65_0, g65_1, p65_1, g65_2, g65_3, g65_4, g65_5, g65_6, g65_7, p65_7, hl, ↓hpu, ↓kc_i, ↓kc_l, ↓kc_r, ↓kc_n, mul8, mul8', mul4, mul4', nI_add, inT, nclN, ltT, ltF, leT, leF, eqT, eqF, nzF, m1F, m1T, shr, shg, bI0, bI1, bo_bI, bo_1, bo_0, eq10, eq00, frT1, frT2, frT3, fit0, fit1, fit2, fit3, true_and, and_true, ↓reduceIte, Nat.reduceAdd, Nat.reduceMul, and_self, not_false_eq_true, not_true_eq_false, Nat.zero_add, Nat.add_zero]
      · simp (discharger := omega) only [↓w102_0, ↓w102_1, ↓w102_2, ↓w102_5, ↓w102_6, ↓w102_7, ↓w102_8, ↓w102_10, ↓w102_13, ↓w102_16, ↓w102_17, ↓w102_18, ↓w102_21, ↓w102_24, ↓w102_25, ↓w102_28, ↓w102_29, ↓w102_30, ↓w102_31, ↓w102_32, ↓w102_34, ↓w102_37, ↓w102_38, ↓w102_40, ↓w102_43, ↓w102_46, ↓w102_49, ↓w102_50, ↓w102_51, ↓w102_54, ↓w102_55, ↓w102_58, ↓w102_61, ↓w102_62, ↓w102_63, ↓w102_64, ↓w102_67, ↓w102_70, ↓w102_73, rc65, g65_0, g65_1, p65_1, g65_2, g65_3, g65_4, g65_5, g65_6, g65_7, p65_7, hl, ↓hpu, ↓kc_i, ↓kc_l, ↓kc_r, ↓kc_n, mul8, mul8', mul4, mul4', nI_add, inT, nclN, ltT, ltF, leT, leF, eqT, eqF, nzF, m1F, m1T, shr, shg, bI0, bI1, bo_bI, bo_1, bo_0, eq10, eq00, frT1, frT2, frT3, fit0, fit1, fit2, fit3, true_and, and_true, ↓reduceIte, Nat.reduceAdd, Nat.reduceMul, and_self, not_false_eq_true, not_true_eq_false, Nat.zero_add, Nat.add_zero]
  | succ m ih =>
    intro p i k t I J R hm hi hp hl hs hk hq hr hj
    by_cases hpn : p = n
    · exact ih p i k t I J R (by omega) hi hp hl hs hk hq hr hj
    · have hp' : p < n := by omega
      obtain ⟨hc, hc2⟩ := hs p hp'
      have hc3 := okc_lt hc2
      by_cases hS : isSp (g p) = true
      · obtain ⟨I', J', R', T, h1, h2⟩ := ih (p + 1) (i + 1) k (some (.int (nI (g p)))) I J R (by omega) (by omega) (by omega) hl hs hk (by omega) ((rnn_s hp' hS).trans hr) hj
        refine ⟨I', J', R', T, h1, fun P => ?_⟩
        refine w102_9.trans ?_
        by_cases h10 : g p = 10
        · simp (discharger := omega) only [↓w102_0, ↓w102_1, ↓w102_2, ↓w102_5, ↓w102_6, ↓w102_7, ↓w102_8, ↓w102_10, ↓w102_13, ↓w102_16, ↓w102_17, ↓w102_18, ↓w102_21, ↓w102_24, ↓w102_25, ↓w102_28, ↓w102_29, ↓w102_30, ↓w102_31, ↓w102_32, ↓w102_34, ↓w102_37, ↓w102_38, ↓w102_40, ↓w102_43, ↓w102_46, ↓w102_49, ↓w102_50, ↓w102_51, ↓w102_54, ↓w102_55, ↓w102_58, ↓w102_61, ↓w102_62, ↓w102_63, ↓w102_64, ↓w102_67, ↓w102_70, ↓w102_73, rc65, g65_0, g65_1, p65_1, g65_2, g65_3, g65_4, g65_5, g65_6, g65_7, p65_7, gi66, si66, hl, hc, ↓kc_i, ↓kc_l, ↓kc_r, ↓kc_n, mul8, mul8', mul4, mul4', nI_add, inT, nclN, ltT, ltF, leT, leF, eqT, eqF, nzF, m1F, m1T, shr, shg, bI0, bI1, bo_bI, bo_1, bo_0, eq10, eq00, frT1, frT2, frT3, fit0, fit1, fit2, fit3, true_and, and_true, ↓reduceIte, Nat.reduceAdd, Nat.reduceMul, and_self, not_false_eq_true, not_true_eq_false, Nat.zero_add, Nat.add_zero]
          exact h2 P
        · have h32 : g p = 32 := by unfold isSp at hS; simp at hS; omega
          simp (discharger := omega) only [↓w102_0, ↓w102_1, ↓w102_2, ↓w102_5, ↓w102_6, ↓w102_7, ↓w102_8, ↓w102_10, ↓w102_13, ↓w102_16, ↓w102_17, ↓w102_18, ↓w102_21, ↓w102_24, ↓w102_25, ↓w102_28, ↓w102_29, ↓w102_30, ↓w102_31, ↓w102_32, ↓w102_34, ↓w102_37, ↓w102_38, ↓w102_40, ↓w102_43, ↓w102_46, ↓w102_49, ↓w102_50, ↓w102_51, ↓w102_54, ↓w102_55, ↓w102_58, ↓w102_61, ↓w102_62, ↓w102_63, ↓w102_64, ↓w102_67, ↓w102_70, ↓w102_73, rc65, g65_0, g65_1, p65_1, g65_2, g65_3, g65_4, g65_5, g65_6, g65_7, p65_7, gi66, si66, hl, hc, ↓kc_i, ↓kc_l, ↓kc_r, ↓kc_n, mul8, mul8', mul4, mul4', nI_add, inT, nclN, ltT, ltF, leT, leF, eqT, eqF, nzF, m1F, m1T, shr, shg, bI0, bI1, bo_bI, bo_1, bo_0, eq10, eq00, frT1, frT2, frT3, fit0, fit1, fit2, fit3, true_and, and_true, ↓reduceIte, Nat.reduceAdd, Nat.reduceMul, and_self, not_false_eq_true, not_true_eq_false, Nat.zero_add, Nat.add_zero]
          rw [h32] at h2
          simp only [h32]
          exact h2 P
      · have hS' := Bool.eq_false_iff.mpr hS
        have hpb : p = bg g n k := by rw [← hr, rnn_eq hp' hS']
        have hk1 : k ≤ p := by rw [hpb]; exact bg_ge k (fun j h => (hj j h).1)
        obtain ⟨I1, J1, R1, ⟨hF, hB⟩, h2⟩ := k_cutToken (L := L) (xs := xs) (d := d) (J := J) (R := R) (Z := Z) hl hn hs hk (show k < 1001 by omega) hp'
        have hgt := nxB_gt (g := g) hp'
        have hle := nxB_le (g := g) (b := p) (n := n) (by omega)
        have hqs : qq g n (k + 1) = nxB g n p := by rw [qq_s, ← hpb]
        have hl1 : I1 65 1 = nI n := by rw [hF.2.1, upd_ne (by decide), hl]
        have hs1 : sgT I1 g n := fun q hq => by rw [hF.1 66 (by decide) (by decide) (by decide) (by decide)]; exact hs q hq
        have hk1' : I1 65 7 = nI (k + 1) := by rw [hF.2.1, upd_eq]
        obtain ⟨I', J', R', T, ⟨h3, h3'⟩, h4⟩ := ih (nxB g n p) (i + 1) (k + 1) (some (.int (nI (g p)))) I1 J1 R1 (by omega) (by omega) hle hl1 hs1 hk1' (by omega) (by show _ = rnn isSp g n (qq g n (k + 1)); rw [hqs]) (fun j h => by
          by_cases e : j = k
          · subst e; exact ⟨fun z => by have := kd0.mp z; omega, by rw [← hpb]; exact hB⟩
          · exact ⟨(hj j (by omega)).1, tkB_o hF e (hj j (by omega)).2⟩)
        refine ⟨I', J', R', T, ⟨cutF_t hF h3, h3'⟩, fun P => ?_⟩
        refine w102_9.trans ?_
        have n10 : g p ≠ 10 := fun z => by unfold isSp at hS'; rw [z] at hS'; exact absurd hS' (by decide)
        have n32 : g p ≠ 32 := fun z => by unfold isSp at hS'; rw [z] at hS'; exact absurd hS' (by decide)
        simp (discharger := omega) only [↓w102_0, ↓w102_1, ↓w102_2, ↓w102_5, ↓w102_6, ↓w102_7, ↓w102_8, ↓w102_10, ↓w102_13, ↓w102_16, ↓w102_17, ↓w102_18, ↓w102_21, ↓w102_24, ↓w102_25, ↓w102_28, ↓w102_29, ↓w102_30, ↓w102_31, ↓w102_32, ↓w102_34, ↓w102_37, ↓w102_38, ↓w102_40, ↓w102_43, ↓w102_46, ↓w102_49, ↓w102_50, ↓w102_51, ↓w102_54, ↓w102_55, ↓w102_58, ↓w102_61, ↓w102_62, ↓w102_63, ↓w102_64, ↓w102_67, ↓w102_70, ↓w102_73, rc65, g65_0, g65_1, p65_1, g65_2, g65_3, g65_4, g65_5, g65_6, g65_7, p65_7, gi66, si66, hl, hc, ↓h2, ↓kc_i, ↓kc_l, ↓kc_r, ↓kc_n, mul8, mul8', mul4, mul4', nI_add, inT, nclN, ltT, ltF, leT, leF, eqT, eqF, nzF, m1F, m1T, shr, shg, bI0, bI1, bo_bI, bo_1, bo_0, eq10, eq00, frT1, frT2, frT3, fit0, fit1, fit2, fit3, true_and, and_true, ↓reduceIte, Nat.reduceAdd, Nat.reduceMul, and_self, not_false_eq_true, not_true_eq_false, Nat.zero_add, Nat.add_zero]
        exact h4 P
theorem k_cut (hl : I 65 1 = nI n) (hn : n ≤ 1000) (hs : sgT I g n) : ∃ I' J' R' T, (cutF I J R I' J' R' ∧ cutT I' J' R' g n T) ∧ ∀ P, Wp L xs (d+6) 102 0 [some (.ref (65)), none, none, none] [] (mk I J R Z) P = P none (mk I' J' R' Z) := by
  obtain ⟨I', J', R', T, ⟨h1, h1'⟩, h2⟩ := k_cutLoop (L := L) (xs := xs) (d := d) (Z := Z) (g := g) hn n 0 0 0 none (st I 65 (upd (I 65) 7 (nI 0))) J R (by omega) (Nat.le_refl _) (Nat.zero_le _) (by rw [st_eq, upd_ne (by decide), hl]) (fun k hk => by rw [st_ne (by decide)]; exact hs k hk) (by rw [st_eq, upd_eq]) (Nat.le_refl _) rfl (fun j h => by omega)
  refine ⟨I', J', R', T, ⟨⟨fun a a1 a2 a3 a4 => (h1.1 a a1 a2 a3 a4).trans (st_ne a1), fun j hj => (h1.2.1 j hj).trans (by rw [st_eq, upd_ne hj]), h1.2.2⟩, h1'⟩, fun P => ?_⟩
  simp (discharger := omega) only [↓w102_0, ↓w102_1, ↓w102_2, ↓w102_5, ↓w102_6, ↓w102_7, ↓w102_8, ↓w102_10, ↓w102_13, ↓w102_16, ↓w102_17, ↓w102_18, ↓w102_21, ↓w102_24, ↓w102_25, ↓w102_28, ↓w102_29, ↓w102_30, ↓w102_31, ↓w102_32, ↓w102_34, ↓w102_37, ↓w102_38, ↓w102_40, ↓w102_43, ↓w102_46, ↓w102_49, ↓w102_50, ↓w102_51, ↓w102_54, ↓w102_55, ↓w102_58, ↓w102_61, ↓w102_62, ↓w102_63, ↓w102_64, ↓w102_67, ↓w102_70, ↓w102_73, rc65, g65_0, g65_1, p65_1, g65_2, g65_3, g65_4, g65_5, g65_6, g65_7, p65_7, ↓kc_i, ↓kc_l, ↓kc_r, ↓kc_n, mul8, mul8', mul4, mul4', nI_add, inT, nclN, ltT, ltF, leT, leF, eqT, eqF, nzF, m1F, m1T, shr, shg, bI0, bI1, bo_bI, bo_1, bo_0, eq10, eq00, frT1, frT2, frT3, fit0, fit1, fit2, fit3, true_and, and_true, ↓reduceIte, Nat.reduceAdd, Nat.reduceMul, and_self, not_false_eq_true, not_true_eq_false, Nat.zero_add, Nat.add_zero]
  exact h2 P
end G2
