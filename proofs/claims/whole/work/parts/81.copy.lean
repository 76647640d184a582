section K9
variable {L : Nat} {xs : Nat → Int32} {d : Nat} {P : Option Value → Hp → Prop} {I : Mi} {J : Mj} {R : Mr} {Z : Mz} {s t r c o N M : Nat} {x y : Int32} {V : Vw}
theorem ff_ex {T : Type} {F : Nat → T → Prop} {p : Nat → Bool} {X : Prop} (n : Nat) (h : ∀ i t, i < n → ∃ t', F i t = if p i = true then X else F (i + 1) t') (t : T) : ∃ t', F 0 t = if al_ n p = true then F n t' else X := by
  have key : ∀ k i t, i + k = n → ∃ t', F i t = if (ffr p i k).isNone = true then F n t' else X := by
    intro k
    induction k with
    | zero => intro i t hi; exact ⟨t, by rw [show i = n by omega]; rfl⟩
    | succ k ih =>
      intro i t hi
      obtain ⟨t', ht⟩ := h i t (by omega)
      obtain ⟨t2, h2⟩ := ih (i + 1) t' (by omega)
      refine ⟨t2, ?_⟩
      rw [ht, h2]
      show _ = if (if p i = true then some i else ffr p (i + 1) k).isNone = true then _ else _
      by_cases hp : p i = true
      · rw [if_pos hp, if_pos hp]; rfl
      · rw [if_neg hp, if_neg hp]
  exact key n 0 t (by omega)
theorem al_cg {p q : Nat → Bool} {n : Nat} (h : ∀ i, i < n → p i = q i) : al_ n p = al_ n q := by unfold al_; rw [ff_cg h]
theorem k_isClash (hc : c < 8) (ho : o < 32) : Wp L xs d 6 0 [some (.ref (76)), some (.int (nI c)), some (.int (nI o))] [] (mk I J R Z) P = P (some (.int (bI (tb (I 81 c) o)))) (mk I J R Z) := by
  simp (discharger := omega) only [↓w6_0, ↓w6_1, ↓w6_4, ↓w6_5, ↓w6_6, ↓w6_7, ↓w6_8, ↓w6_9, ↓w6_10, ↓w6_13, ↓w6_14, ↓w6_17, ↓w6_18, rc76, g76_0, p76_0, g76_1, p76_1, g76_2, p76_2, g76_3, g76_4, g76_5, g76_6, g76_7, g76_8, gi81, si81, mul8, mul8', mul4, mul4', nI_add, inT, nclN, ltT, ltF, leT, leF, eqT, eqF, nzF, m1F, m1T, shr, shg, bI0, bI1, bo_bI, bo_1, bo_0, eq10, eq00, frT1, frT2, frT3, fit0, fit1, fit2, fit3, true_and, and_true, ↓reduceIte, Nat.reduceAdd, Nat.reduceMul, and_self, not_false_eq_true, not_true_eq_false, Nat.zero_add, Nat.add_zero]
  cases tb (I 81 c) o <;> simp only [mul8, mul8', mul4, mul4', nI_add, inT, nclN, ltT, ltF, leT, leF, eqT, eqF, nzF, m1F, m1T, shr, shg, bI0, bI1, bo_bI, bo_1, bo_0, eq10, eq00, frT1, frT2, frT3, fit0, fit1, fit2, fit3, true_and, and_true, ↓reduceIte, Nat.reduceAdd, Nat.reduceMul, and_self, not_false_eq_true, not_true_eq_false, Nat.zero_add, Nat.add_zero, bI_t, bI_f, reduceCtorEq]
/-- whether a command was run ahead of another at a replica -/
def isb (f6 : Nat → Int32) (n r a b : Nat) : Bool := decide (a ≠ b) && bef (whn f6 n r a) (whn f6 n r b)
def agr (M : Nat) (cl f1 f6 : Nat → Int32) (n m r o : Nat) : Bool := al_ M fun a => !al_ a fun b => (tb (cAt f1 r (nI 4) (nI 4) &&& cAt f1 o (nI 4) (nI 4)) a && tb (cAt f1 r (nI 4) (nI 4) &&& cAt f1 o (nI 4) (nI 4)) b) && (tb (cl a) b && (isb f6 n r a b != isb f6 m o a b))
theorem bI_eq {a b : Bool} : (bI a = bI b) = (a = b) := by cases a <;> cases b <;> decide
theorem k_isAgreed {n m : Nat} (hs : isS s) (hr : r < 5) (ho : o < 5) (hM : I 76 2 = nI M) (h8 : M ≤ 8) (hn : I (s + 7) r = nI n) (hn8 : n ≤ 8) (hm : I (s + 7) o = nI m) (hm8 : m ≤ 8) :
    Wp L xs (d+3) 84 0 [some (.ref (126)), some (.ref (s)), some (.int (nI r)), some (.int (nI o)), none, none, none, none] [] (mk I J R Z) P = P (some (.int (bI (agr M (I 81) (I (s + 1)) (I (s + 6)) n m r o)))) (mk I J R Z) := by
  have hs1 := hs.1
  simp (discharger := omega) only [↓w84_0, ↓w84_1, ↓w84_2, ↓w84_3, ↓w84_4, ↓w84_7, ↓w84_8, ↓w84_9, ↓w84_10, ↓w84_11, ↓w84_14, ↓w84_15, ↓w84_17, ↓w84_18, ↓w84_22, ↓w84_23, ↓w84_26, ↓w84_29, ↓w84_32, ↓w84_33, ↓w84_37, ↓w84_39, ↓w84_42, ↓w84_44, ↓w84_46, ↓w84_47, ↓w84_48, ↓w84_49, ↓w84_52, ↓w84_54, ↓w84_56, ↓w84_57, ↓w84_58, ↓w84_59, ↓w84_62, ↓w84_63, ↓w84_66, ↓w84_67, ↓w84_69, ↓w84_71, ↓w84_74, ↓w84_75, ↓w84_78, ↓w84_80, ↓w84_82, ↓w84_85, ↓w84_88, ↓w84_89, ↓w84_90, ↓w84_92, ↓w84_94, ↓w84_97, ↓w84_98, ↓w84_99, ↓w84_101, ↓w84_103, ↓w84_106, ↓w84_109, ↓w84_110, ↓w84_111, ↓w84_114, ↓w84_117, ↓w84_120, ↓w84_123, ↓w84_124, ↓k_commandsAt' hs, ↓kc_i, ↓kc_l, ↓kc_r, ↓kc_n, gS0 hs, gS1 hs, gS2 hs, gS3 hs, gS4 hs, gS5 hs, gS6 hs, gS7 hs, gS8 hs, gS9 hs, gS10 hs, gS11 hs, gS12 hs, giS1 hs, giS2 hs, giS3 hs, giS4 hs, giS5 hs, giS6 hs, giS7 hs, giS8 hs, giS9 hs, giS10 hs, giS11 hs, siS1 hs, siS2 hs, siS3 hs, siS4 hs, siS5 hs, siS6 hs, siS7 hs, siS8 hs, siS9 hs, siS10 hs, siS11 hs, pS0 hs, pS1 hs, rcS hs, rc126, g126_0, g126_1, g126_2, p126_2, mul8, mul8', mul4, mul4', nI_add, inT, nclN, ltT, ltF, leT, leF, eqT, eqF, nzF, m1F, m1T, shr, shg, bI0, bI1, bo_bI, bo_1, bo_0, eq10, eq00, frT1, frT2, frT3, fit0, fit1, fit2, fit3, true_and, and_true, ↓reduceIte, Nat.reduceAdd, Nat.reduceMul, and_self, not_false_eq_true, not_true_eq_false, Nat.zero_add, Nat.add_zero]
  unfold agr
  generalize cAt (I (s + 1)) r (nI 4) (nI 4) &&& cAt (I (s + 1)) o (nI 4) (nI 4) = both
  have hin : ∀ a t, a < M → ∃ t', Wp L xs (d+3) 84 35 [some (.ref (126)), some (.ref (s)), some (.int (nI r)), some (.int (nI o)), some (.int (both)), some (.int (nI a)), some (.int (nI 0)), t] [] (mk I J R Z) P = if al_ a (fun b => (tb both a && tb both b) && (tb (I 81 a) b && (isb (I (s + 6)) n r a b != isb (I (s + 6)) m o a b))) = true then Wp L xs (d+3) 84 35 [some (.ref (126)), some (.ref (s)), some (.int (nI r)), some (.int (nI o)), some (.int (both)), some (.int (nI a)), some (.int (nI a)), t'] [] (mk I J R Z) P else P (some (.int (nI 0))) (mk I J R Z) := by
    intro a t ha
    refine ff_ex (F := fun i t => Wp L xs (d+3) 84 35 [some (.ref (126)), some (.ref (s)), some (.int (nI r)), some (.int (nI o)), some (.int (both)), some (.int (nI a)), some (.int (nI i)), t] [] (mk I J R Z) P) (X := P (some (.int (nI 0))) (mk I J R Z)) a ?_ t
    intro i t hi
    refine ⟨some (.int (bI (tb both a && tb both i))), w84_35.trans ?_⟩
    simp (discharger := omega) only [↓w84_0, ↓w84_1, ↓w84_2, ↓w84_3, ↓w84_4, ↓w84_7, ↓w84_8, ↓w84_9, ↓w84_10, ↓w84_11, ↓w84_14, ↓w84_15, ↓w84_17, ↓w84_18, ↓w84_22, ↓w84_23, ↓w84_26, ↓w84_29, ↓w84_32, ↓w84_33, ↓w84_37, ↓w84_39, ↓w84_42, ↓w84_44, ↓w84_46, ↓w84_47, ↓w84_48, ↓w84_49, ↓w84_52, ↓w84_54, ↓w84_56, ↓w84_57, ↓w84_58, ↓w84_59, ↓w84_62, ↓w84_63, ↓w84_66, ↓w84_67, ↓w84_69, ↓w84_71, ↓w84_74, ↓w84_75, ↓w84_78, ↓w84_80, ↓w84_82, ↓w84_85, ↓w84_88, ↓w84_89, ↓w84_90, ↓w84_92, ↓w84_94, ↓w84_97, ↓w84_98, ↓w84_99, ↓w84_101, ↓w84_103, ↓w84_106, ↓w84_109, ↓w84_110, ↓w84_111, ↓w84_114, ↓w84_117, ↓w84_120, ↓w84_123, ↓w84_124, ↓k_isClash, ↓k_isBefore hs hr hn hn8, ↓k_isBefore hs ho hm hm8, rcS hs, ↓kc_i, ↓kc_l, ↓kc_r, ↓kc_n, rc126, g126_0, g126_1, g126_2, p126_2, rc76, g76_0, p76_0, g76_1, p76_1, g76_2, p76_2, g76_3, g76_4, g76_5, g76_6, g76_7, g76_8, mul8, mul8', mul4, mul4', nI_add, inT, nclN, ltT, ltF, leT, leF, eqT, eqF, nzF, m1F, m1T, shr, shg, bI0, bI1, bo_bI, bo_1, bo_0, eq10, eq00, frT1, frT2, frT3, fit0, fit1, fit2, fit3, true_and, and_true, ↓reduceIte, Nat.reduceAdd, Nat.reduceMul, and_self, not_false_eq_true, not_true_eq_false, Nat.zero_add, Nat.add_zero, bI_eq]
    unfold isb
    generalize (decide (a ≠ i) && bef (whn (I (s + 6)) n r a) (whn (I (s + 6)) n r i)) = u
    generalize (decide (a ≠ i) && bef (whn (I (s + 6)) m o a) (whn (I (s + 6)) m o i)) = v
    cases tb both a <;> cases tb both i <;> cases tb (I 81 a) i <;> cases u <;> cases v <;> simp [bI, eq10]
  refine ff_anyB (T := Option Value × Option Value) (F := fun i t => Wp L xs (d+3) 84 20 [some (.ref (126)), some (.ref (s)), some (.int (nI r)), some (.int (nI o)), some (.int (both)), some (.int (nI i)), t.1, t.2] [] (mk I J R Z) P) (G := fun v => P (some (.int v)) (mk I J R Z)) M ?_ ?_ (none, none)
  · intro i t hi
    obtain ⟨t', ht⟩ := hin i t.2 hi
    refine ⟨(some (.int (nI i)), t'), w84_20.trans ?_⟩
    simp (discharger := omega) only [↓w84_0, ↓w84_1, ↓w84_2, ↓w84_3, ↓w84_4, ↓w84_7, ↓w84_8, ↓w84_9, ↓w84_10, ↓w84_11, ↓w84_14, ↓w84_15, ↓w84_17, ↓w84_18, ↓w84_22, ↓w84_23, ↓w84_26, ↓w84_29, ↓w84_32, ↓w84_33, ↓w84_37, ↓w84_39, ↓w84_42, ↓w84_44, ↓w84_46, ↓w84_47, ↓w84_48, ↓w84_49, ↓w84_52, ↓w84_54, ↓w84_56, ↓w84_57, ↓w84_58, ↓w84_59, ↓w84_62, ↓w84_63, ↓w84_66, ↓w84_67, ↓w84_69, ↓w84_71, ↓w84_74, ↓w84_75, ↓w84_78, ↓w84_80, ↓w84_82, ↓w84_85, ↓w84_88, ↓w84_89, ↓w84_90, ↓w84_92, ↓w84_94, ↓w84_97, ↓w84_98, ↓w84_99, ↓w84_101, ↓w84_103, ↓w84_106, ↓w84_109, ↓w84_110, ↓w84_111, ↓w84_114, ↓w84_117, ↓w84_120, ↓w84_123, ↓w84_124, rc126, g126_0, g126_1, g126_2, p126_2, rc76, g76_0, p76_0, g76_1, p76_1, g76_2, p76_2, g76_3, g76_4, g76_5, g76_6, g76_7, g76_8, hM, mul8, mul8', mul4, mul4', nI_add, inT, nclN, ltT, ltF, leT, leF, eqT, eqF, nzF, m1F, m1T, shr, shg, bI0, bI1, bo_bI, bo_1, bo_0, eq10, eq00, frT1, frT2, frT3, fit0, fit1, fit2, fit3, true_and, and_true, ↓reduceIte, Nat.reduceAdd, Nat.reduceMul, and_self, not_false_eq_true, not_true_eq_false, Nat.zero_add, Nat.add_zero]
    rw [ht]
    generalize al_ i (fun b => (tb both i && tb both b) && (tb (I 81 i) b && (isb (I (s + 6)) n r i b != isb (I (s + 6)) m o i b))) = w
    cases w
    · simp
    · rw [if_pos rfl, w84_35]
      simp (discharger := omega) only [↓w84_0, ↓w84_1, ↓w84_2, ↓w84_3, ↓w84_4, ↓w84_7, ↓w84_8, ↓w84_9, ↓w84_10, ↓w84_11, ↓w84_14, ↓w84_15, ↓w84_17, ↓w84_18, ↓w84_22, ↓w84_23, ↓w84_26, ↓w84_29, ↓w84_32, ↓w84_33, ↓w84_37, ↓w84_39, ↓w84_42, ↓w84_44, ↓w84_46, ↓w84_47, ↓w84_48, ↓w84_49, ↓w84_52, ↓w84_54, ↓w84_56, ↓w84_57, ↓w84_58, ↓w84_59, ↓w84_62, ↓w84_63, ↓w84_66, ↓w84_67, ↓w84_69, ↓w84_71, ↓w84_74, ↓w84_75, ↓w84_78, ↓w84_80, ↓w84_82, ↓w84_85, ↓w84_88, ↓w84_89, ↓w84_90, ↓w84_92, ↓w84_94, ↓w84_97, ↓w84_98, ↓w84_99, ↓w84_101, ↓w84_103, ↓w84_106, ↓w84_109, ↓w84_110, ↓w84_111, ↓w84_114, ↓w84_117, ↓w84_120, ↓w84_123, ↓w84_124, mul8, mul8', mul4, mul4', nI_add, inT, nclN, ltT, ltF, leT, leF, eqT, eqF, nzF, m1F, m1T, shr, shg, bI0, bI1, bo_bI, bo_1, bo_0, eq10, eq00, frT1, frT2, frT3, fit0, fit1, fit2, fit3, true_and, and_true, ↓reduceIte, Nat.reduceAdd, Nat.reduceMul, and_self, not_false_eq_true, not_true_eq_false, Nat.zero_add, Nat.add_zero, Bool.not_true]
      simp
  · intro t
    refine w84_20.trans ?_
    simp (discharger := omega) only [↓w84_0, ↓w84_1, ↓w84_2, ↓w84_3, ↓w84_4, ↓w84_7, ↓w84_8, ↓w84_9, ↓w84_10, ↓w84_11, ↓w84_14, ↓w84_15, ↓w84_17, ↓w84_18, ↓w84_22, ↓w84_23, ↓w84_26, ↓w84_29, ↓w84_32, ↓w84_33, ↓w84_37, ↓w84_39, ↓w84_42, ↓w84_44, ↓w84_46, ↓w84_47, ↓w84_48, ↓w84_49, ↓w84_52, ↓w84_54, ↓w84_56, ↓w84_57, ↓w84_58, ↓w84_59, ↓w84_62, ↓w84_63, ↓w84_66, ↓w84_67, ↓w84_69, ↓w84_71, ↓w84_74, ↓w84_75, ↓w84_78, ↓w84_80, ↓w84_82, ↓w84_85, ↓w84_88, ↓w84_89, ↓w84_90, ↓w84_92, ↓w84_94, ↓w84_97, ↓w84_98, ↓w84_99, ↓w84_101, ↓w84_103, ↓w84_106, ↓w84_109, ↓w84_110, ↓w84_111, ↓w84_114, ↓w84_117, ↓w84_120, ↓w84_123, ↓w84_124, rc126, g126_0, g126_1, g126_2, p126_2, rc76, g76_0, p76_0, g76_1, p76_1, g76_2, p76_2, g76_3, g76_4, g76_5, g76_6, g76_7, g76_8, hM, mul8, mul8', mul4, mul4', nI_add, inT, nclN, ltT, ltF, leT, leF, eqT, eqF, nzF, m1F, m1T, shr, shg, bI0, bI1, bo_bI, bo_1, bo_0, eq10, eq00, frT1, frT2, frT3, fit0, fit1, fit2, fit3, true_and, and_true, ↓reduceIte, Nat.reduceAdd, Nat.reduceMul, and_self, not_false_eq_true, not_true_eq_false, Nat.zero_add, Nat.add_zero]
def z0 : Nat → Int32 := fun _ => nI 0
theorem fil_lp {n : Nat} {f : Nat → Int32} {x : Int32} : lp (fun k f => upd f k x) n f = fun k => if k < n then x else f k := by
  induction n with
  | zero => funext k; simp [lp]
  | succ n ih =>
    show upd (lp (fun k f => upd f k x) n f) n x = _
    rw [ih]; funext k; unfold upd
    by_cases h1 : k = n
    · simp [h1]
    · by_cases h2 : k < n
      · simp [h1, h2, show k < n + 1 by omega]
      · simp [h1, h2, show ¬ k < n + 1 by omega]
theorem fil_can {n : Nat} {f : Nat → Int32} (h : ∀ k, n ≤ k → f k = nI 0) : lp (fun k f => upd f k (nI 0)) n f = z0 := by
  rw [fil_lp]; funext k; unfold z0
  by_cases hk : k < n
  · simp [hk]
  · simp [hk, h k (by omega)]
theorem cpy_can {n : Nat} {f g : Nat → Int32} (hf : ∀ k, n ≤ k → f k = nI 0) (hg : ∀ k, n ≤ k → g k = nI 0) : va_cpy f g 0 0 n = f := by
  funext k; unfold va_cpy
  by_cases hk : k < n
  · simp [hk]
  · simp [hk, hg k (by omega), hf k (by omega)]
theorem k_fill {a n : Nat} (ha : 64 ≤ a) (h : SHT[a - 64]? = some (0, n, [])) (hn : n < 2147483648) : Wp L xs d 313 0 [some (.ref (a)), some (.int (nI 0)), none, none] [] (mk I J R Z) P = P none (mk (st I a (lp (fun k f => upd f k (nI 0)) n (I a))) J R Z) := by
  have hal := fun (K : Int32 → Prop) (I : Mi) => alM (I := I) (J := J) (R := R) (Z := Z) (L := L) (K := K) ha h (by decide)
  have hsi := fun (K : Hp → Prop) (I : Mi) (i x : Int32) => siM (I := I) (J := J) (R := R) (Z := Z) (i := i) (x := x) (K := K) ha h (Or.inl rfl)
  simp (discharger := omega) only [↓w313_0, ↓w313_1, ↓w313_2, ↓w313_3, ↓w313_4, ↓w313_6, ↓w313_7, ↓w313_10, ↓w313_11, ↓w313_12, ↓w313_13, ↓w313_14, ↓w313_17, ↓w313_20, hal, mul8, mul8', mul4, mul4', nI_add, inT, nclN, ltT, ltF, leT, leF, eqT, eqF, nzF, m1F, m1T, shr, shg, bI0, bI1, bo_bI, bo_1, bo_0, eq10, eq00, frT1, frT2, frT3, fit0, fit1, fit2, fit3, true_and, and_true, ↓reduceIte, Nat.reduceAdd, Nat.reduceMul, and_self, not_false_eq_true, not_true_eq_false, Nat.zero_add, Nat.add_zero]
  refine Eq.trans (congrArg (fun q => Wp L xs d 313 5 [some (.ref (a)), some (.int (nI 0)), some (.int (nI 0)), some (.int (nI n))] [] (mk q J R Z) P) (show I = st I a (I a) by rw [st_id])) ?_
  refine lp_to (F := fun i f => Wp L xs d 313 5 [some (.ref (a)), some (.int (nI 0)), some (.int (nI i)), some (.int (nI n))] [] (mk (st I a f) J R Z) P) (B := fun k f => upd f k (nI 0)) n (I a) ?_ ?_
  · intro i f hi
    refine w313_5.trans ?_
    simp (discharger := omega) only [↓w313_0, ↓w313_1, ↓w313_2, ↓w313_3, ↓w313_4, ↓w313_6, ↓w313_7, ↓w313_10, ↓w313_11, ↓w313_12, ↓w313_13, ↓w313_14, ↓w313_17, ↓w313_20, hsi, st_eq, st_st, mul8, mul8', mul4, mul4', nI_add, inT, nclN, ltT, ltF, leT, leF, eqT, eqF, nzF, m1F, m1T, shr, shg, bI0, bI1, bo_bI, bo_1, bo_0, eq10, eq00, frT1, frT2, frT3, fit0, fit1, fit2, fit3, true_and, and_true, ↓reduceIte, Nat.reduceAdd, Nat.reduceMul, and_self, not_false_eq_true, not_true_eq_false, Nat.zero_add, Nat.add_zero]
    rfl
  · refine w313_5.trans ?_
    simp (discharger := omega) only [↓w313_0, ↓w313_1, ↓w313_2, ↓w313_3, ↓w313_4, ↓w313_6, ↓w313_7, ↓w313_10, ↓w313_11, ↓w313_12, ↓w313_13, ↓w313_14, ↓w313_17, ↓w313_20, mul8, mul8', mul4, mul4', nI_add, inT, nclN, ltT, ltF, leT, leF, eqT, eqF, nzF, m1F, m1T, shr, shg, bI0, bI1, bo_bI, bo_1, bo_0, eq10, eq00, frT1, frT2, frT3, fit0, fit1, fit2, fit3, true_and, and_true, ↓reduceIte, Nat.reduceAdd, Nat.reduceMul, and_self, not_false_eq_true, not_true_eq_false, Nat.zero_add, Nat.add_zero]
/-- how many places each row of a State has -/
def szS (j : Nat) : Nat := match j with
  | 0 => 2
  | 7 => 5
  | 8 => 20
  | 9 => 8
  | 10 => 8
  | 11 => 8
  | _ => 40
/-- nothing stands behind the rows' ends -/
def cS (V : Vw) : Prop := ∀ j k, j < 12 → szS j ≤ k → V j k = nI 0
def vw (I : Mi) (s : Nat) : Vw := fun j => I (s + j)
def t12 (f0 f1 f2 f3 f4 f5 f6 f7 f8 f9 f10 f11 : Nat → Int32) : Vw := fun j => match j with
  | 0 => f0
  | 1 => f1
  | 2 => f2
  | 3 => f3
  | 4 => f4
  | 5 => f5
  | 6 => f6
  | 7 => f7
  | 8 => f8
  | 9 => f9
  | 10 => f10
  | 11 => f11
  | _ => z0
theorem ps_cg {V V' : Vw} (h : ∀ j, j < 12 → V j = V' j) : putS I s V = putS I s V' := by
  funext a; unfold putS
  by_cases ha : s ≤ a ∧ a < s + 12
  · rw [if_pos ha, if_pos ha, h _ (by omega)]
  · rw [if_neg ha, if_neg ha]
theorem sts_ps {f0 f1 f2 f3 f4 f5 f6 f7 f8 f9 f10 f11 : Nat → Int32} : st (st (st (st (st (st (st (st (st (st (st (st I s f0) (s + 1) f1) (s + 2) f2) (s + 3) f3) (s + 4) f4) (s + 5) f5) (s + 6) f6) (s + 7) f7) (s + 8) f8) (s + 9) f9) (s + 10) f10) (s + 11) f11 = putS I s (t12 f0 f1 f2 f3 f4 f5 f6 f7 f8 f9 f10 f11) := by
  funext b
  by_cases h : s ≤ b ∧ b < s + 12
  · obtain ⟨j, rfl⟩ : ∃ j, b = s + j := ⟨b - s, by omega⟩
    have hj : j = 0 ∨ j = 1 ∨ j = 2 ∨ j = 3 ∨ j = 4 ∨ j = 5 ∨ j = 6 ∨ j = 7 ∨ j = 8 ∨ j = 9 ∨ j = 10 ∨ j = 11 := by omega
    rw [ps_j (by omega)]
    rcases hj with rfl | rfl | rfl | rfl | rfl | rfl | rfl | rfl | rfl | rfl | rfl | rfl <;> simp [st, t12]
  · rw [ps_ne (by omega)]
    simp (discharger := omega) only [st_ne]
theorem k_copyFrom (hs : isS s) (ht : isS t) (hd : s + 12 ≤ t ∨ t + 12 ≤ s) (hcs : cS (vw I s)) (hct : cS (vw I t)) : Wp L xs (d+1) 88 0 [some (.ref (t)), some (.ref (s))] [] (mk I J R Z) P = P none (mk (putS I t (vw I s)) J R Z) := by
  have hs1 := hs.1
  have ht1 := ht.1
  have cp := fun (j n : Nat) (I : Mi) (K : Hp → Prop) (h : SHT[s + j - 64]? = some (0, n, [])) (h' : SHT[t + j - 64]? = some (0, n, [])) (hn : n < 2 ^ 31) => cpI (I := I) (J := J) (R := R) (Z := Z) (a := s + j) (b := t + j) (n := n) (K := K) (by omega) h (by omega) h' (Nat.le_refl n) (Nat.le_refl n) hn
  have c1 := fun I K => cp 1 40 I K (hS1 hs) (hS1 ht) (by decide)
  have c2 := fun I K => cp 2 40 I K (hS2 hs) (hS2 ht) (by decide)
  have c3 := fun I K => cp 3 40 I K (hS3 hs) (hS3 ht) (by decide)
  have c4 := fun I K => cp 4 40 I K (hS4 hs) (hS4 ht) (by decide)
  have c5 := fun I K => cp 5 40 I K (hS5 hs) (hS5 ht) (by decide)
  have c6 := fun I K => cp 6 40 I K (hS6 hs) (hS6 ht) (by decide)
  have c7 := fun I K => cp 7 5 I K (hS7 hs) (hS7 ht) (by decide)
  have c8 := fun I K => cp 8 20 I K (hS8 hs) (hS8 ht) (by decide)
  have c9 := fun I K => cp 9 8 I K (hS9 hs) (hS9 ht) (by decide)
  have c10 := fun I K => cp 10 8 I K (hS10 hs) (hS10 ht) (by decide)
  have c11 := fun I K => cp 11 8 I K (hS11 hs) (hS11 ht) (by decide)
  simp (discharger := omega) only [↓w88_0, ↓w88_1, ↓w88_2, ↓w88_5, ↓w88_8, ↓w88_9, ↓w88_10, ↓w88_13, ↓w88_16, ↓w88_17, ↓w88_20, ↓w88_21, ↓w88_22, ↓w88_25, ↓w88_26, ↓w88_28, ↓w88_31, ↓w88_32, ↓w88_35, ↓w88_36, ↓w88_37, ↓w88_40, ↓w88_41, ↓w88_43, ↓w88_46, ↓w88_47, ↓w88_50, ↓w88_51, ↓w88_52, ↓w88_55, ↓w88_56, ↓w88_58, ↓w88_61, ↓w88_62, ↓w88_65, ↓w88_66, ↓w88_67, ↓w88_70, ↓w88_71, ↓w88_73, ↓w88_76, ↓w88_77, ↓w88_80, ↓w88_81, ↓w88_82, ↓w88_85, ↓w88_86, ↓w88_88, ↓w88_91, ↓w88_92, ↓w88_95, ↓w88_96, ↓w88_97, ↓w88_100, ↓w88_101, ↓w88_103, ↓w88_106, ↓w88_107, ↓w88_110, ↓w88_111, ↓w88_112, ↓w88_115, ↓w88_116, ↓w88_117, ↓w88_120, ↓w88_121, ↓w88_124, ↓w88_125, ↓w88_126, ↓w88_129, ↓w88_130, ↓w88_132, ↓w88_135, ↓w88_136, ↓w88_139, ↓w88_140, ↓w88_141, ↓w88_144, ↓w88_145, ↓w88_147, ↓w88_150, ↓w88_151, ↓w88_154, ↓w88_155, ↓w88_156, ↓w88_159, ↓w88_160, ↓w88_162, ↓w88_165, ↓w88_166, ↓w88_169, ↓w88_170, ↓w88_171, ↓w88_174, ↓w88_175, ↓w88_177, ↓w88_180, gS0 hs, gS1 hs, gS2 hs, gS3 hs, gS4 hs, gS5 hs, gS6 hs, gS7 hs, gS8 hs, gS9 hs, gS10 hs, gS11 hs, gS12 hs, giS1 hs, giS2 hs, giS3 hs, giS4 hs, giS5 hs, giS6 hs, giS7 hs, giS8 hs, giS9 hs, giS10 hs, giS11 hs, siS1 hs, siS2 hs, siS3 hs, siS4 hs, siS5 hs, siS6 hs, siS7 hs, siS8 hs, siS9 hs, siS10 hs, siS11 hs, pS0 hs, pS1 hs, rcS hs, gS0 ht, gS1 ht, gS2 ht, gS3 ht, gS4 ht, gS5 ht, gS6 ht, gS7 ht, gS8 ht, gS9 ht, gS10 ht, gS11 ht, gS12 ht, giS1 ht, giS2 ht, giS3 ht, giS4 ht, giS5 ht, giS6 ht, giS7 ht, giS8 ht, giS9 ht, giS10 ht, giS11 ht, siS1 ht, siS2 ht, siS3 ht, siS4 ht, siS5 ht, siS6 ht, siS7 ht, siS8 ht, siS9 ht, siS10 ht, siS11 ht, pS0 ht, pS1 ht, rcS ht, c1, c2, c3, c4, c5, c6, c7, c8, c9, c10, c11, st_ne, st_eq, st_st, mul8, mul8', mul4, mul4', nI_add, inT, nclN, ltT, ltF, leT, leF, eqT, eqF, nzF, m1F, m1T, shr, shg, bI0, bI1, bo_bI, bo_1, bo_0, eq10, eq00, frT1, frT2, frT3, fit0, fit1, fit2, fit3, true_and, and_true, ↓reduceIte, Nat.reduceAdd, Nat.reduceMul, and_self, not_false_eq_true, not_true_eq_false, Nat.zero_add, Nat.add_zero]
  rw [sts_ps]
  have e := fun j n (hj : j < 12) (hz : szS j = n) => cpy_can (n := n) (fun k hk => hcs j k hj (by omega)) (fun k hk => hct j k hj (by omega))
  refine congrArg (fun q => P none (mk q J R Z)) (ps_cg fun j hj => ?_)
  have hj' : j = 0 ∨ j = 1 ∨ j = 2 ∨ j = 3 ∨ j = 4 ∨ j = 5 ∨ j = 6 ∨ j = 7 ∨ j = 8 ∨ j = 9 ∨ j = 10 ∨ j = 11 := by omega
  rcases hj' with rfl | rfl | rfl | rfl | rfl | rfl | rfl | rfl | rfl | rfl | rfl | rfl
  · show upd (upd (I t) 0 (I s 0)) 1 (I s 1) = I s
    funext k; unfold upd
    by_cases k1 : k = 1
    · subst k1; rfl
    · by_cases k0 : k = 0
      · subst k0; rfl
      · rw [if_neg k1, if_neg k0]
        exact (hct 0 k hj (by show 2 ≤ k; omega)).trans (hcs 0 k hj (by show 2 ≤ k; omega)).symm
  · exact e 1 40 hj rfl
  · exact e 2 40 hj rfl
  · exact e 3 40 hj rfl
  · exact e 4 40 hj rfl
  · exact e 5 40 hj rfl
  · exact e 6 40 hj rfl
  · exact e 7 5 hj rfl
  · exact e 8 20 hj rfl
  · exact e 9 8 hj rfl
  · exact e 10 8 hj rfl
  · exact e 11 8 hj rfl
/-- a new State -/
def frs (N : Nat) (ld : Nat → Int32) : Vw := t12 (upd (upd z0 0 (allR N)) 1 (nI 0)) z0 z0 z0 z0 z0 z0 z0 z0 ld z0 z0
theorem k_startAnew (ht : isS t) (hN : I 76 0 = nI N) (h5 : N ≤ 5) (hl : ∀ k, 8 ≤ k → I 80 k = nI 0) (hct : cS (vw I t)) : Wp L xs (d+1) 87 0 [some (.ref (t)), some (.ref (76))] [] (mk I J R Z) P = P none (mk (putS I t (frs N (I 80))) J R Z) := by
  have ht1 := ht.1
  have cp := fun (I : Mi) (K : Hp → Prop) => cpI (I := I) (J := J) (R := R) (Z := Z) (a := 80) (b := t + 9) (n := 8) (n0 := 8) (n1 := 8) (K := K) (by omega) rfl (by omega) (hS9 ht) (Nat.le_refl _) (Nat.le_refl _) (by decide)
  have fi := fun (j n : Nat) (I : Mi) (P : Option Value → Hp → Prop) (h : SHT[t + j - 64]? = some (0, n, [])) (hn : n < 2147483648) => k_fill (L := L) (xs := xs) (d := d) (I := I) (J := J) (R := R) (Z := Z) (a := t + j) (P := P) (by omega) h hn
  have f1 := fun I P => fi 1 40 I P (hS1 ht) (by decide)
  have f2 := fun I P => fi 2 40 I P (hS2 ht) (by decide)
  have f3 := fun I P => fi 3 40 I P (hS3 ht) (by decide)
  have f4 := fun I P => fi 4 40 I P (hS4 ht) (by decide)
  have f5 := fun I P => fi 5 40 I P (hS5 ht) (by decide)
  have f6 := fun I P => fi 6 40 I P (hS6 ht) (by decide)
  have f7 := fun I P => fi 7 5 I P (hS7 ht) (by decide)
  have f8 := fun I P => fi 8 20 I P (hS8 ht) (by decide)
  have f10 := fun I P => fi 10 8 I P (hS10 ht) (by decide)
  have f11 := fun I P => fi 11 8 I P (hS11 ht) (by decide)
  simp (discharger := omega) only [↓w87_0, ↓w87_1, ↓w87_2, ↓w87_5, ↓w87_8, ↓w87_9, ↓w87_10, ↓w87_13, ↓w87_14, ↓w87_17, ↓w87_18, ↓w87_21, ↓w87_22, ↓w87_25, ↓w87_26, ↓w87_29, ↓w87_30, ↓w87_33, ↓w87_34, ↓w87_37, ↓w87_38, ↓w87_41, ↓w87_42, ↓w87_45, ↓w87_46, ↓w87_49, ↓w87_50, ↓w87_53, ↓w87_54, ↓w87_57, ↓w87_58, ↓w87_61, ↓w87_62, ↓w87_65, ↓w87_66, ↓w87_69, ↓w87_70, ↓w87_73, ↓w87_74, ↓w87_77, ↓w87_78, ↓w87_81, ↓w87_82, ↓w87_83, ↓w87_86, ↓w87_87, ↓w87_89, ↓w87_92, ↓w87_93, ↓w87_96, ↓w87_97, ↓w87_100, ↓w87_101, ↓w87_104, ↓w87_105, ↓w87_108, ↓k_allReplicas hN h5, ↓f1, ↓f2, ↓f3, ↓f4, ↓f5, ↓f6, ↓f7, ↓f8, ↓f10, ↓f11, cp, ↓kc_i, ↓kc_l, ↓kc_r, ↓kc_n, gS0 ht, gS1 ht, gS2 ht, gS3 ht, gS4 ht, gS5 ht, gS6 ht, gS7 ht, gS8 ht, gS9 ht, gS10 ht, gS11 ht, gS12 ht, giS1 ht, giS2 ht, giS3 ht, giS4 ht, giS5 ht, giS6 ht, giS7 ht, giS8 ht, giS9 ht, giS10 ht, giS11 ht, siS1 ht, siS2 ht, siS3 ht, siS4 ht, siS5 ht, siS6 ht, siS7 ht, siS8 ht, siS9 ht, siS10 ht, siS11 ht, pS0 ht, pS1 ht, rcS ht, rc76, g76_0, p76_0, g76_1, p76_1, g76_2, p76_2, g76_3, g76_4, g76_5, g76_6, g76_7, g76_8, st_ne, st_eq, st_st, mul8, mul8', mul4, mul4', nI_add, inT, nclN, ltT, ltF, leT, leF, eqT, eqF, nzF, m1F, m1T, shr, shg, bI0, bI1, bo_bI, bo_1, bo_0, eq10, eq00, frT1, frT2, frT3, fit0, fit1, fit2, fit3, true_and, and_true, ↓reduceIte, Nat.reduceAdd, Nat.reduceMul, and_self, not_false_eq_true, not_true_eq_false, Nat.zero_add, Nat.add_zero]
  rw [sts_ps]
  have e := fun j n (hj : j < 12) (hz : szS j = n) => fil_can (n := n) (fun k hk => hct j k hj (by omega))
  refine congrArg (fun q => P none (mk q J R Z)) (ps_cg fun j hj => ?_)
  have hj' : j = 0 ∨ j = 1 ∨ j = 2 ∨ j = 3 ∨ j = 4 ∨ j = 5 ∨ j = 6 ∨ j = 7 ∨ j = 8 ∨ j = 9 ∨ j = 10 ∨ j = 11 := by omega
  rcases hj' with rfl | rfl | rfl | rfl | rfl | rfl | rfl | rfl | rfl | rfl | rfl | rfl
  · show upd (upd (I t) 0 (allR N)) 1 (nI 0) = upd (upd z0 0 (allR N)) 1 (nI 0)
    funext k; unfold upd
    by_cases k1 : k = 1
    · rw [if_pos k1, if_pos k1]
    · by_cases k0 : k = 0
      · rw [if_neg k1, if_neg k1, if_pos k0, if_pos k0]
      · rw [if_neg k1, if_neg k0, if_neg k1, if_neg k0]
        exact hct 0 k hj (by show 2 ≤ k; omega)
  · exact e 1 40 hj rfl
  · exact e 2 40 hj rfl
  · exact e 3 40 hj rfl
  · exact e 4 40 hj rfl
  · exact e 5 40 hj rfl
  · exact e 6 40 hj rfl
  · exact e 7 5 hj rfl
  · exact e 8 20 hj rfl
  · exact cpy_can hl (fun k hk => hct 9 k hj hk)
  · exact e 10 8 hj rfl
  · exact e 11 8 hj rfl
end K9
