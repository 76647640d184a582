/-! THE CLASS LAYS ITS CLASHES: cl c o (o < c): whether they clash -/
def ckd (f e : Nat → Int32) (c o : Nat) : Bool := decide (f c = nI 3) || decide (f o = nI 3) || (decide (e c = e o) && !(decide (f c = f o) && (decide (f c = nI 2) || decide (f c = nI 1))))
def lyB (cl : Nat → Nat → Bool) (c o : Nat) (f : Nat → Int32) : Nat → Int32 := if cl c o = true then upd (upd f c (f c ||| sg o)) o (upd f c (f c ||| sg o) o ||| sg c) else f
def lyO (cl : Nat → Nat → Bool) (c : Nat) (f : Nat → Int32) : Nat → Int32 := lp (fun o f => lyB cl c o f) c (upd f c (nI 0))
def lyC (cl : Nat → Nat → Bool) (M : Nat) (f : Nat → Int32) : Nat → Int32 := lp (fun c f => lyO cl c f) M f
def clS (cl : Nat → Nat → Bool) (c k : Nat) : Bool := if k < c then cl c k else if c < k then cl k c else false
section H0
variable {L : Nat} {xs : Nat → Int32} {d : Nat} {P : Option Value → Hp → Prop} {I I' : Mi} {J J' : Mj} {R R' : Mr} {Z : Mz} {k n i p w m T lv dep F z c o h M j : Nat} {g : Nat → Nat} {φ σ f : Nat → Int32} {u u' : Sk} {x y : Int32} {v : Int32} {cs : List Int32} {cl : Nat → Nat → Bool}
theorem lyB_tb (hc : c < 8) (ho : o < c) (k : Nat) (q : Nat) : tb (lyB cl c o f q) k = (tb (f q) k || (cl c o && ((decide (q = c) && decide (k = o)) || (decide (q = o) && decide (k = c))))) := by
  unfold lyB
  cases hcl : cl c o
  · rw [if_neg (by decide)]; simp
  · rw [if_pos rfl]
    by_cases q1 : q = o
    · subst q1
      rw [upd_eq, upd_ne (by omega), tb_or, tb_sg (by omega)]
      have : ¬ q = c := by omega
      simp [this]
    · rw [upd_ne q1]
      by_cases q2 : q = c
      · subst q2
        rw [upd_eq, tb_or, tb_sg (by omega)]
        simp [q1]
      · rw [upd_ne q2]; simp [q1, q2]
theorem lyO_tb (hc : c < 8) (k q : Nat) : ∀ m, m ≤ c → tb (lp (fun o f => lyB cl c o f) m (upd f c (nI 0)) q) k = if q = c then (decide (k < m) && cl c k) else (tb (f q) k || (decide (q < m) && (cl c q && decide (k = c)))) := by
  intro m
  induction m with
  | zero =>
    intro _
    show tb (upd f c (nI 0) q) k = _
    by_cases hq : q = c
    · subst hq; rw [upd_eq, tb_0, if_pos rfl]; simp
    · rw [upd_ne hq, if_neg hq]; simp
  | succ m ih =>
    intro hm
    show tb (lyB cl c m (lp (fun o f => lyB cl c o f) m (upd f c (nI 0))) q) k = _
    rw [lyB_tb hc (by omega), ih (by omega)]
    by_cases hq : q = c
    · subst hq
      rw [if_pos rfl, if_pos rfl]
      have e : ¬ q = m := by omega
      by_cases hk : k = m
      · subst hk; simp [e]
      · by_cases hk2 : k < m
        · simp [e, hk, hk2, show k < m + 1 by omega]
        · simp [e, hk, hk2, show ¬ k < m + 1 by omega]
    · rw [if_neg hq, if_neg hq]
      by_cases hk : q = m
      · subst hk; simp [hq]
      · by_cases hk2 : q < m
        · simp [hq, hk, hk2, show q < m + 1 by omega]
        · simp [hq, hk, hk2, show ¬ q < m + 1 by omega]
theorem lyC_tb (k : Nat) : ∀ M, M ≤ 8 → ∀ q, q < M → tb (lyC cl M f q) k = (decide (k < M) && clS cl q k) := by
  intro M
  induction M with
  | zero => intro _ q hq; omega
  | succ M ih =>
    intro hM q hq
    show tb (lyO cl M (lyC cl M f) q) k = _
    unfold lyO
    rw [lyO_tb (by omega) k q M (Nat.le_refl _)]
    by_cases e : q = M
    · subst e
      rw [if_pos rfl]
      unfold clS
      by_cases h1 : k < q
      · simp [h1, show k < q + 1 by omega]
      · by_cases h2 : k = q
        · subst h2; simp
        · simp [h1, show ¬ k < q + 1 by omega]
    · rw [if_neg e, ih (by omega) q (by omega)]
      have hqM : q < M := by omega
      by_cases h1 : k < M
      · simp [h1, show k < M + 1 by omega, show ¬ k = M by omega]
      · by_cases h2 : k = M
        · subst h2
          unfold clS
          simp [hqM, show ¬ k < q by omega]
        · simp [h1, h2, show ¬ k < M + 1 by omega]
theorem lyC_o : ∀ M q, M ≤ q → lyC cl M f q = f q := by
  intro M
  induction M with
  | zero => intro q _; rfl
  | succ M ih =>
    intro q hq
    show lyO cl M (lyC cl M f) q = f q
    have key : ∀ m, m ≤ M → lp (fun o f => lyB cl M o f) m (upd (lyC cl M f) M (nI 0)) q = f q := by
      intro m
      induction m with
      | zero => intro _; show upd (lyC cl M f) M (nI 0) q = f q; rw [upd_ne (by omega), ih q (by omega)]
      | succ m ihm =>
        intro hm
        show lyB cl M m (lp (fun o f => lyB cl M o f) m (upd (lyC cl M f) M (nI 0))) q = f q
        unfold lyB
        split
        · rw [upd_ne (by omega), upd_ne (by omega)]; exact ihm (by omega)
        · exact ihm (by omega)
    exact key M (Nat.le_refl _)
theorem sk_sk : sk (sk I u) u' = sk I u' := by
  unfold sk
  funext q
  by_cases h2 : q = 75
  · subst h2; rw [st_eq, st_eq]
  · rw [st_ne h2, st_ne h2]
    by_cases h1 : q = 73
    · subst h1; rw [st_eq, st_eq, st_ne (by decide), st_eq, upd_upd]
    · rw [st_ne h1, st_ne h1, st_ne h2, st_ne h1]
theorem sk_st {a : Nat} (h : a ≠ 73) (h' : a ≠ 75) : st (sk I u) a φ = sk (st I a φ) u := by
  unfold sk
  rw [st_ne (fun z => h z.symm), st_cm (a := 75) (b := a) (fun z => h' z.symm), st_cm (a := 73) (b := a) (fun z => h z.symm)]
theorem nI_any : nI x.toBitVec.toNat = x := by
  apply Int32.toBitVec_inj.mp
  show BitVec.ofNat 32 x.toBitVec.toNat = x.toBitVec
  exact BitVec.ofNat_toNat 32 x.toBitVec |>.trans (by simp)
theorem sk_id : sk I ((I 73 3).toBitVec.toNat, I 75) = I := by
  unfold sk; dsimp only
  rw [nI_any, upd_self, st_id, st_id]
theorem k_ckd (hc : c < 8) (ho : o < 8) : Wp L xs d 5 0 [some (.ref (83)), some (.int (nI c)), some (.int (nI o)), none] [] (mk I J R Z) P = P (some (.int (bI (ckd (I 84) (I 85) c o)))) (mk I J R Z) := by
  unfold ckd
  simp (discharger := omega) only [↓w5_0, ↓w5_1, ↓w5_4, ↓w5_5, ↓w5_6, ↓w5_7, ↓w5_10, ↓w5_11, ↓w5_14, ↓w5_15, ↓w5_16, ↓w5_17, ↓w5_20, ↓w5_21, ↓w5_22, ↓w5_23, ↓w5_26, ↓w5_27, ↓w5_28, ↓w5_29, ↓w5_32, ↓w5_33, ↓w5_34, ↓w5_37, ↓w5_38, ↓w5_41, ↓w5_42, ↓w5_43, ↓w5_44, ↓w5_47, ↓w5_48, ↓w5_51, ↓w5_52, ↓w5_53, ↓w5_54, ↓w5_57, ↓w5_58, ↓w5_61, ↓w5_62, ↓w5_63, ↓w5_64, ↓w5_67, ↓w5_68, ↓w5_69, ↓w5_70, ↓w5_73, ↓w5_74, ↓w5_75, ↓w5_78, ↓w5_79, ↓w5_82, ↓w5_83, ↓w5_86, ↓w5_87, rc83, g83_0, p83_0, g83_1, p83_1, g83_2, p83_2, g83_3, g83_4, g83_5, g83_6, g83_7, g83_8, gi84, si84, gi85, si85, mul8, mul8', mul4, mul4', nI_add, inT, nclN, ltT, ltF, leT, leF, eqT, eqF, nzF, m1F, m1T, shr, shg, bI0, bI1, bo_bI, bo_1, bo_0, eq10, eq00, frT1, frT2, frT3, fit0, fit1, fit2, fit3, true_and, and_true, ↓reduceIte, Nat.reduceAdd, Nat.reduceMul, and_self, not_false_eq_true, not_true_eq_false, Nat.zero_add, Nat.add_zero]
  by_cases q1 : I 84 c = nI 3
  · simp [q1, bI_t]
  · by_cases q2 : I 84 o = nI 3
    · simp [q1, q2, bI_t]
    · by_cases q3 : I 84 c = I 84 o
      · rw [← q3]
        by_cases q4 : I 84 c = nI 2
        · have e : ¬ (nI 2 = nI 3) := by decide
          simp [q4, e, bI_f, eq10]
        · by_cases q5 : I 84 c = nI 1
          · have e : ¬ (nI 1 = nI 3) := by decide
            have e' : ¬ (nI 1 = nI 2) := by decide
            simp [q5, e, e', bI_f, eq10]
          · by_cases q6 : I 85 c = I 85 o <;> simp [q1, q4, q5, q6, bI_t, bI_f]
      · by_cases q6 : I 85 c = I 85 o <;> simp [q1, q2, q3, q6, bI_t, bI_f]
/-- what comes of the law for two commands: v c o, or 0 without one -/
theorem k_worth (hz : I 73 1 = nI z) (hz1 : z ≤ 1000) (hc : c < 8) (ho : o < 8) (hcs : cs.length = z) (h74 : ∀ k, k < cs.length → I 74 k = cs.getD k 0) (hv : (cs = [] ∧ v = nI 0) ∨ Ev L xs d I J R Z z c o cs v 24) : ∃ u, ∀ P, Wp L xs (d+2) 17 0 [some (.ref (73)), some (.ref (83)), some (.int (nI c)), some (.int (nI o)), none, none, none, none] [] (mk I J R Z) P = P (some (.int v)) (mk (sk I u) J R Z) := by
  have e0 : st I 73 (upd (I 73) 3 (nI 0)) = sk I (0, I 75) := by unfold sk; dsimp only; rw [show I 75 = (st I 73 (upd (I 73) 3 (nI 0))) 75 from (st_ne (by decide)).symm, st_id]
  rcases hv with ⟨h1, h2⟩ | hE
  · subst h1
    subst h2
    have hz0 : z = 0 := by rw [← hcs]; rfl
    subst hz0
    refine ⟨(0, I 75), fun P => ?_⟩
    have e3 : sk I (0, I 75) 73 3 = nI 0 := sk73_3
    have po : ∀ P, Wp L xs (d+1) 21 0 [some (.ref (73))] [] (mk (sk I (0, I 75)) J R Z) P = P (some (.int (nI 0))) (mk (sk I (0, I 75)) J R Z) := fun P => by
      simp (discharger := omega) only [↓w21_0, ↓w21_1, ↓w21_4, ↓w21_7, ↓w21_8, ↓w21_9, ↓w21_10, ↓w21_11, ↓w21_14, ↓w21_15, ↓w21_16, ↓w21_19, ↓w21_20, ↓w21_23, ↓w21_24, ↓w21_27, ↓w21_28, rc73, g73_0, g73_1, p73_1, g73_2, g73_3, p73_3, gi75, si75, e3, mul8, mul8', mul4, mul4', nI_add, inT, nclN, ltT, ltF, leT, leF, eqT, eqF, nzF, m1F, m1T, shr, shg, bI0, bI1, bo_bI, bo_1, bo_0, eq10, eq00, frT1, frT2, frT3, fit0, fit1, fit2, fit3, true_and, and_true, ↓reduceIte, Nat.reduceAdd, Nat.reduceMul, and_self, not_false_eq_true, not_true_eq_false, Nat.zero_add, Nat.add_zero]
    simp (discharger := omega) only [↓w17_0, ↓w17_1, ↓w17_2, ↓w17_5, ↓w17_6, ↓w17_8, ↓w17_10, ↓w17_11, ↓w17_14, ↓w17_17, ↓w17_18, ↓w17_21, ↓w17_23, ↓w17_24, ↓w17_26, ↓w17_28, ↓w17_31, ↓w17_32, ↓w17_34, ↓w17_37, ↓w17_40, ↓w17_42, ↓w17_44, ↓w17_47, ↓w17_48, ↓w17_49, ↓w17_51, ↓w17_52, ↓w17_53, ↓w17_56, ↓w17_59, ↓w17_62, ↓w17_64, ↓w17_66, ↓w17_69, ↓w17_70, ↓w17_71, ↓w17_74, ↓w17_77, ↓w17_78, ↓w17_81, ↓w17_82, ↓w17_85, ↓w17_88, ↓w17_89, ↓w17_92, ↓w17_94, ↓w17_95, ↓w17_98, ↓w17_100, ↓w17_101, ↓w17_103, ↓w17_105, ↓w17_107, ↓w17_110, ↓w17_113, ↓w17_116, ↓w17_119, ↓w17_120, ↓w17_123, rc73, g73_0, g73_1, p73_1, g73_2, g73_3, p73_3, gi74, si74, e0, sk73_1, hz, ↓po, ↓kc_i, ↓kc_l, ↓kc_r, ↓kc_n, mul8, mul8', mul4, mul4', nI_add, inT, nclN, ltT, ltF, leT, leF, eqT, eqF, nzF, m1F, m1T, shr, shg, bI0, bI1, bo_bI, bo_1, bo_0, eq10, eq00, frT1, frT2, frT3, fit0, fit1, fit2, fit3, true_and, and_true, ↓reduceIte, Nat.reduceAdd, Nat.reduceMul, and_self, not_false_eq_true, not_true_eq_false, Nat.zero_add, Nat.add_zero]
  · obtain ⟨σ', t5, t6, t7, ⟨-, e2⟩, e4⟩ := hE 0 0 (I 75) none none none (fun k hk => by rw [Nat.zero_add]; exact h74 k hk) (by omega) (by omega)
    refine ⟨(0, σ'), fun P => ?_⟩
    simp (discharger := omega) only [↓w17_0, ↓w17_1, ↓w17_2, ↓w17_5, ↓w17_6, ↓w17_10, ↓w17_11, ↓w17_14, ↓w17_17, ↓w17_18, ↓w17_21, ↓w17_23, ↓w17_24, ↓w17_26, ↓w17_28, ↓w17_31, ↓w17_32, ↓w17_34, ↓w17_37, ↓w17_40, ↓w17_42, ↓w17_44, ↓w17_47, ↓w17_48, ↓w17_49, ↓w17_51, ↓w17_52, ↓w17_53, ↓w17_56, ↓w17_59, ↓w17_62, ↓w17_64, ↓w17_66, ↓w17_69, ↓w17_70, ↓w17_71, ↓w17_74, ↓w17_77, ↓w17_78, ↓w17_81, ↓w17_82, ↓w17_85, ↓w17_88, ↓w17_89, ↓w17_92, ↓w17_94, ↓w17_95, ↓w17_98, ↓w17_100, ↓w17_101, ↓w17_103, ↓w17_105, ↓w17_107, ↓w17_110, ↓w17_113, ↓w17_116, ↓w17_119, ↓w17_120, ↓w17_123, rc73, g73_0, g73_1, p73_1, g73_2, g73_3, p73_3, gi74, si74, e0, ↓kc_i, ↓kc_l, ↓kc_r, ↓kc_n, mul8, mul8', mul4, mul4', nI_add, inT, nclN, ltT, ltF, leT, leF, eqT, eqF, nzF, m1F, m1T, shr, shg, bI0, bI1, bo_bI, bo_1, bo_0, eq10, eq00, frT1, frT2, frT3, fit0, fit1, fit2, fit3, true_and, and_true, ↓reduceIte, Nat.reduceAdd, Nat.reduceMul, and_self, not_false_eq_true, not_true_eq_false, Nat.zero_add, Nat.add_zero]
    rw [e4, Nat.zero_add, hcs]
    refine w17_8.trans ?_
    have po := fun P => k_pop (L := L) (xs := xs) (d := d + 1) (P := P) (I := I) (J := J) (R := R) (Z := Z) (u := (0 + 1, σ')) (h := 0) rfl (by decide)
    dsimp only at po
    rw [e2] at po
    simp (discharger := omega) only [↓w17_0, ↓w17_1, ↓w17_2, ↓w17_5, ↓w17_6, ↓w17_10, ↓w17_11, ↓w17_14, ↓w17_17, ↓w17_18, ↓w17_21, ↓w17_23, ↓w17_24, ↓w17_26, ↓w17_28, ↓w17_31, ↓w17_32, ↓w17_34, ↓w17_37, ↓w17_40, ↓w17_42, ↓w17_44, ↓w17_47, ↓w17_48, ↓w17_49, ↓w17_51, ↓w17_52, ↓w17_53, ↓w17_56, ↓w17_59, ↓w17_62, ↓w17_64, ↓w17_66, ↓w17_69, ↓w17_70, ↓w17_71, ↓w17_74, ↓w17_77, ↓w17_78, ↓w17_81, ↓w17_82, ↓w17_85, ↓w17_88, ↓w17_89, ↓w17_92, ↓w17_94, ↓w17_95, ↓w17_98, ↓w17_100, ↓w17_101, ↓w17_103, ↓w17_105, ↓w17_107, ↓w17_110, ↓w17_113, ↓w17_116, ↓w17_119, ↓w17_120, ↓w17_123, rc73, g73_0, g73_1, p73_1, g73_2, g73_3, p73_3, gi74, si74, sk73_1, hz, ↓po, ↓kc_i, ↓kc_l, ↓kc_r, ↓kc_n, mul8, mul8', mul4, mul4', nI_add, inT, nclN, ltT, ltF, leT, leF, eqT, eqF, nzF, m1F, m1T, shr, shg, bI0, bI1, bo_bI, bo_1, bo_0, eq10, eq00, frT1, frT2, frT3, fit0, fit1, fit2, fit3, true_and, and_true, ↓reduceIte, Nat.reduceAdd, Nat.reduceMul, and_self, not_false_eq_true, not_true_eq_false, Nat.zero_add, Nat.add_zero]
def clV (I : Mi) (V : Nat → Nat → Int32) (c o : Nat) : Bool := ckd (I 84) (I 85) c o || decide (¬ V c o = nI 0)
theorem k_layClashes {V : Nat → Nat → Int32} (hM : I 83 2 = nI M) (hM8 : M ≤ 8) (hW : ∀ c o, o < c → c < M → ∀ u f, ∃ u', ∀ P, Wp L xs (d+2) 17 0 [some (.ref (73)), some (.ref (83)), some (.int (nI c)), some (.int (nI o)), none, none, none, none] [] (mk (sk (st I 88 f) u) J R Z) P = P (some (.int (V c o))) (mk (sk (st I 88 f) u') J R Z)) : ∃ u, ∀ P, Wp L xs (d+3) 4 0 [some (.ref (83)), some (.ref (73)), none, none] [] (mk I J R Z) P = P none (mk (sk (st I 88 (lyC (clV I V) M (I 88))) u) J R Z) := by
  have i83 : ∀ f u, sk (st I 88 f) u 83 = I 83 := fun f u => by rw [sko (by decide) (by decide), st_ne (by decide)]
  have i88 : ∀ f u, sk (st I 88 f) u 88 = f := fun f u => by rw [sko (by decide) (by decide), st_eq]
  have w88 : ∀ f u f', st (sk (st I 88 f) u) 88 f' = sk (st I 88 f') u := fun f u f' => by rw [sk_st (by decide) (by decide), st_st]
  have ck : ∀ f u c o P, c < 8 → o < 8 → Wp L xs (d+2) 5 0 [some (.ref (83)), some (.int (nI c)), some (.int (nI o)), none] [] (mk (sk (st I 88 f) u) J R Z) P = P (some (.int (bI (ckd (I 84) (I 85) c o)))) (mk (sk (st I 88 f) u) J R Z) := fun f u c o P hc ho => by
    have := k_ckd (L := L) (xs := xs) (d := d + 2) (P := P) (I := sk (st I 88 f) u) (J := J) (R := R) (Z := Z) hc ho
    rw [sko (by decide) (by decide), st_ne (by decide), sko (by decide) (by decide), st_ne (by decide)] at this
    exact this
  have inner : ∀ c, c < M → ∀ f u o, o ≤ c → ∃ u', ∀ P, Wp L xs (d+3) 4 19 [some (.ref (83)), some (.ref (73)), some (.int (nI c)), some (.int (nI 0))] [] (mk (sk (st I 88 f) u) J R Z) P = Wp L xs (d+3) 4 19 [some (.ref (83)), some (.ref (73)), some (.int (nI c)), some (.int (nI o))] [] (mk (sk (st I 88 (lp (fun o f => lyB (clV I V) c o f) o f)) u') J R Z) P := by
    intro c hc f u o
    induction o with
    | zero => intro _; exact ⟨u, fun P => rfl⟩
    | succ o ih =>
      intro ho
      obtain ⟨u1, e1⟩ := ih (by omega)
      generalize hf : lp (fun o f => lyB (clV I V) c o f) o f = f1 at *
      obtain ⟨u2, e2⟩ := hW c o (by omega) hc u1 f1
      have hgo : ∀ u P, Wp L xs (d+3) 4 43 [some (.ref (83)), some (.ref (73)), some (.int (nI c)), some (.int (nI o))] [] (mk (sk (st I 88 f1) u) J R Z) P = Wp L xs (d+3) 4 19 [some (.ref (83)), some (.ref (73)), some (.int (nI c)), some (.int (nI (o + 1)))] [] (mk (sk (st I 88 (upd (upd f1 c (f1 c ||| sg o)) o (upd f1 c (f1 c ||| sg o) o ||| sg c))) u) J R Z) P := fun u P => by
        simp (discharger := omega) only [↓w4_0, ↓w4_1, ↓w4_3, ↓w4_4, ↓w4_7, ↓w4_10, ↓w4_11, ↓w4_14, ↓w4_15, ↓w4_16, ↓w4_17, ↓w4_18, ↓w4_20, ↓w4_21, ↓w4_24, ↓w4_25, ↓w4_26, ↓w4_27, ↓w4_30, ↓w4_33, ↓w4_34, ↓w4_35, ↓w4_36, ↓w4_37, ↓w4_40, ↓w4_43, ↓w4_44, ↓w4_47, ↓w4_48, ↓w4_49, ↓w4_50, ↓w4_51, ↓w4_52, ↓w4_53, ↓w4_54, ↓w4_55, ↓w4_56, ↓w4_59, ↓w4_60, ↓w4_61, ↓w4_62, ↓w4_63, ↓w4_64, ↓w4_65, ↓w4_66, ↓w4_67, ↓w4_70, ↓w4_73, ↓w4_76, ↓w4_79, rc83, g83_0, p83_0, g83_1, p83_1, g83_2, p83_2, g83_3, g83_4, g83_5, g83_6, g83_7, g83_8, gi88, si88, i88, w88, shg, ↓kc_i, ↓kc_l, ↓kc_r, ↓kc_n, mul8, mul8', mul4, mul4', nI_add, inT, nclN, ltT, ltF, leT, leF, eqT, eqF, nzF, m1F, m1T, shr, shg, bI0, bI1, bo_bI, bo_1, bo_0, eq10, eq00, frT1, frT2, frT3, fit0, fit1, fit2, fit3, true_and, and_true, ↓reduceIte, Nat.reduceAdd, Nat.reduceMul, and_self, not_false_eq_true, not_true_eq_false, Nat.zero_add, Nat.add_zero]
      have hs : lp (fun o f => lyB (clV I V) c o f) (o + 1) f = lyB (clV I V) c o f1 := by rw [← hf]; rfl
      rw [hs]
      have ck1 := fun P => ck f1 u1 c o P (by omega) (by omega)
      unfold lyB clV
      cases hk : ckd (I 84) (I 85) c o
      · rw [hk] at ck1
        by_cases hv : V c o = nI 0
        · refine ⟨u2, fun P => ?_⟩
          rw [e1]
          refine w4_19.trans ?_
          rw [hv] at e2
          rw [if_neg (by simp [hv])]
          simp (discharger := omega) only [↓w4_0, ↓w4_1, ↓w4_3, ↓w4_4, ↓w4_7, ↓w4_10, ↓w4_11, ↓w4_14, ↓w4_15, ↓w4_16, ↓w4_17, ↓w4_18, ↓w4_20, ↓w4_21, ↓w4_24, ↓w4_25, ↓w4_26, ↓w4_27, ↓w4_30, ↓w4_33, ↓w4_34, ↓w4_35, ↓w4_36, ↓w4_37, ↓w4_40, ↓w4_44, ↓w4_47, ↓w4_48, ↓w4_49, ↓w4_50, ↓w4_51, ↓w4_52, ↓w4_53, ↓w4_54, ↓w4_55, ↓w4_56, ↓w4_59, ↓w4_60, ↓w4_61, ↓w4_62, ↓w4_63, ↓w4_64, ↓w4_65, ↓w4_66, ↓w4_67, ↓w4_70, ↓w4_73, ↓w4_76, ↓w4_79, rc83, g83_0, p83_0, g83_1, p83_1, g83_2, p83_2, g83_3, g83_4, g83_5, g83_6, g83_7, g83_8, rc73, g73_0, g73_1, p73_1, g73_2, g73_3, p73_3, ↓ck1, bI_f, ↓e2, ↓kc_i, ↓kc_l, ↓kc_r, ↓kc_n, mul8, mul8', mul4, mul4', nI_add, inT, nclN, ltT, ltF, leT, leF, eqT, eqF, nzF, m1F, m1T, shr, shg, bI0, bI1, bo_bI, bo_1, bo_0, eq10, eq00, frT1, frT2, frT3, fit0, fit1, fit2, fit3, true_and, and_true, ↓reduceIte, Nat.reduceAdd, Nat.reduceMul, and_self, not_false_eq_true, not_true_eq_false, Nat.zero_add, Nat.add_zero]
        · refine ⟨u2, fun P => ?_⟩
          rw [e1]
          refine w4_19.trans ?_
          rw [if_pos (by simp [hv])]
          simp (discharger := omega) only [↓w4_0, ↓w4_1, ↓w4_3, ↓w4_4, ↓w4_7, ↓w4_10, ↓w4_11, ↓w4_14, ↓w4_15, ↓w4_16, ↓w4_17, ↓w4_18, ↓w4_20, ↓w4_21, ↓w4_24, ↓w4_25, ↓w4_26, ↓w4_27, ↓w4_30, ↓w4_33, ↓w4_34, ↓w4_35, ↓w4_36, ↓w4_37, ↓w4_40, ↓w4_44, ↓w4_47, ↓w4_48, ↓w4_49, ↓w4_50, ↓w4_51, ↓w4_52, ↓w4_53, ↓w4_54, ↓w4_55, ↓w4_56, ↓w4_59, ↓w4_60, ↓w4_61, ↓w4_62, ↓w4_63, ↓w4_64, ↓w4_65, ↓w4_66, ↓w4_67, ↓w4_70, ↓w4_73, ↓w4_76, ↓w4_79, rc83, g83_0, p83_0, g83_1, p83_1, g83_2, p83_2, g83_3, g83_4, g83_5, g83_6, g83_7, g83_8, rc73, g73_0, g73_1, p73_1, g73_2, g73_3, p73_3, ↓ck1, bI_f, ↓e2, hv, ↓hgo, ↓kc_i, ↓kc_l, ↓kc_r, ↓kc_n, mul8, mul8', mul4, mul4', nI_add, inT, nclN, ltT, ltF, leT, leF, eqT, eqF, nzF, m1F, m1T, shr, shg, bI0, bI1, bo_bI, bo_1, bo_0, eq10, eq00, frT1, frT2, frT3, fit0, fit1, fit2, fit3, true_and, and_true, ↓reduceIte, Nat.reduceAdd, Nat.reduceMul, and_self, not_false_eq_true, not_true_eq_false, Nat.zero_add, Nat.add_zero]
      · rw [hk] at ck1
        refine ⟨u1, fun P => ?_⟩
        rw [e1]
        refine w4_19.trans ?_
        rw [if_pos (by simp)]
        simp (discharger := omega) only [↓w4_0, ↓w4_1, ↓w4_3, ↓w4_4, ↓w4_7, ↓w4_10, ↓w4_11, ↓w4_14, ↓w4_15, ↓w4_16, ↓w4_17, ↓w4_18, ↓w4_20, ↓w4_21, ↓w4_24, ↓w4_25, ↓w4_26, ↓w4_27, ↓w4_30, ↓w4_33, ↓w4_34, ↓w4_35, ↓w4_36, ↓w4_37, ↓w4_40, ↓w4_44, ↓w4_47, ↓w4_48, ↓w4_49, ↓w4_50, ↓w4_51, ↓w4_52, ↓w4_53, ↓w4_54, ↓w4_55, ↓w4_56, ↓w4_59, ↓w4_60, ↓w4_61, ↓w4_62, ↓w4_63, ↓w4_64, ↓w4_65, ↓w4_66, ↓w4_67, ↓w4_70, ↓w4_73, ↓w4_76, ↓w4_79, rc83, g83_0, p83_0, g83_1, p83_1, g83_2, p83_2, g83_3, g83_4, g83_5, g83_6, g83_7, g83_8, rc73, g73_0, g73_1, p73_1, g73_2, g73_3, p73_3, ↓ck1, bI_t, ↓hgo, ↓kc_i, ↓kc_l, ↓kc_r, ↓kc_n, mul8, mul8', mul4, mul4', nI_add, inT, nclN, ltT, ltF, leT, leF, eqT, eqF, nzF, m1F, m1T, shr, shg, bI0, bI1, bo_bI, bo_1, bo_0, eq10, eq00, frT1, frT2, frT3, fit0, fit1, fit2, fit3, true_and, and_true, ↓reduceIte, Nat.reduceAdd, Nat.reduceMul, and_self, not_false_eq_true, not_true_eq_false, Nat.zero_add, Nat.add_zero]
  have outer : ∀ m, m ≤ M → ∃ u t, ∀ P, Wp L xs (d+3) 4 2 [some (.ref (83)), some (.ref (73)), some (.int (nI 0)), none] [] (mk I J R Z) P = Wp L xs (d+3) 4 2 [some (.ref (83)), some (.ref (73)), some (.int (nI m)), t] [] (mk (sk (st I 88 (lp (fun c f => lyO (clV I V) c f) m (I 88))) u) J R Z) P := by
    intro m
    induction m with
    | zero =>
      intro _
      refine ⟨((I 73 3).toBitVec.toNat, I 75), none, fun P => ?_⟩
      show _ = Wp L xs (d+3) 4 2 [some (.ref (83)), some (.ref (73)), some (.int (nI 0)), none] [] (mk (sk (st I 88 (I 88)) ((I 73 3).toBitVec.toNat, I 75)) J R Z) P
      rw [st_id, sk_id]
    | succ m ih =>
      intro hm
      obtain ⟨u1, t, e1⟩ := ih (by omega)
      generalize hf : lp (fun c f => lyO (clV I V) c f) m (I 88) = f1 at *
      obtain ⟨u2, e2⟩ := inner m (by omega) (upd f1 m (nI 0)) u1 m (Nat.le_refl _)
      refine ⟨u2, some (.int (nI m)), fun P => ?_⟩
      have hs : lp (fun c f => lyO (clV I V) c f) (m + 1) (I 88) = lyO (clV I V) m f1 := by rw [← hf]; rfl
      rw [hs, e1]
      refine w4_2.trans ?_
      simp (discharger := omega) only [↓w4_0, ↓w4_1, ↓w4_3, ↓w4_4, ↓w4_7, ↓w4_10, ↓w4_11, ↓w4_14, ↓w4_15, ↓w4_16, ↓w4_17, ↓w4_18, ↓w4_20, ↓w4_21, ↓w4_24, ↓w4_25, ↓w4_26, ↓w4_27, ↓w4_30, ↓w4_33, ↓w4_34, ↓w4_35, ↓w4_36, ↓w4_37, ↓w4_40, ↓w4_43, ↓w4_44, ↓w4_47, ↓w4_48, ↓w4_49, ↓w4_50, ↓w4_51, ↓w4_52, ↓w4_53, ↓w4_54, ↓w4_55, ↓w4_56, ↓w4_59, ↓w4_60, ↓w4_61, ↓w4_62, ↓w4_63, ↓w4_64, ↓w4_65, ↓w4_66, ↓w4_67, ↓w4_70, ↓w4_73, ↓w4_76, ↓w4_79, rc83, g83_0, p83_0, g83_1, p83_1, g83_2, p83_2, g83_3, g83_4, g83_5, g83_6, g83_7, g83_8, gi88, si88, i83, i88, hM, w88, ↓kc_i, ↓kc_l, ↓kc_r, ↓kc_n, mul8, mul8', mul4, mul4', nI_add, inT, nclN, ltT, ltF, leT, leF, eqT, eqF, nzF, m1F, m1T, shr, shg, bI0, bI1, bo_bI, bo_1, bo_0, eq10, eq00, frT1, frT2, frT3, fit0, fit1, fit2, fit3, true_and, and_true, ↓reduceIte, Nat.reduceAdd, Nat.reduceMul, and_self, not_false_eq_true, not_true_eq_false, Nat.zero_add, Nat.add_zero]
      rw [e2]
      refine w4_19.trans ?_
      simp (discharger := omega) only [↓w4_0, ↓w4_1, ↓w4_3, ↓w4_4, ↓w4_7, ↓w4_10, ↓w4_11, ↓w4_14, ↓w4_15, ↓w4_16, ↓w4_17, ↓w4_18, ↓w4_20, ↓w4_21, ↓w4_24, ↓w4_25, ↓w4_26, ↓w4_27, ↓w4_30, ↓w4_33, ↓w4_34, ↓w4_35, ↓w4_36, ↓w4_37, ↓w4_40, ↓w4_43, ↓w4_44, ↓w4_47, ↓w4_48, ↓w4_49, ↓w4_50, ↓w4_51, ↓w4_52, ↓w4_53, ↓w4_54, ↓w4_55, ↓w4_56, ↓w4_59, ↓w4_60, ↓w4_61, ↓w4_62, ↓w4_63, ↓w4_64, ↓w4_65, ↓w4_66, ↓w4_67, ↓w4_70, ↓w4_73, ↓w4_76, ↓w4_79, ↓kc_i, ↓kc_l, ↓kc_r, ↓kc_n, mul8, mul8', mul4, mul4', nI_add, inT, nclN, ltT, ltF, leT, leF, eqT, eqF, nzF, m1F, m1T, shr, shg, bI0, bI1, bo_bI, bo_1, bo_0, eq10, eq00, frT1, frT2, frT3, fit0, fit1, fit2, fit3, true_and, and_true, ↓reduceIte, Nat.reduceAdd, Nat.reduceMul, and_self, not_false_eq_true, not_true_eq_false, Nat.zero_add, Nat.add_zero]
      exact Eq.refl _
  obtain ⟨u, t, e⟩ := outer M (Nat.le_refl _)
  refine ⟨u, fun P => ?_⟩
  simp (discharger := omega) only [↓w4_0, ↓w4_1, ↓w4_3, ↓w4_4, ↓w4_7, ↓w4_10, ↓w4_11, ↓w4_14, ↓w4_15, ↓w4_16, ↓w4_17, ↓w4_18, ↓w4_20, ↓w4_21, ↓w4_24, ↓w4_25, ↓w4_26, ↓w4_27, ↓w4_30, ↓w4_33, ↓w4_34, ↓w4_35, ↓w4_36, ↓w4_37, ↓w4_40, ↓w4_43, ↓w4_44, ↓w4_47, ↓w4_48, ↓w4_49, ↓w4_50, ↓w4_51, ↓w4_52, ↓w4_53, ↓w4_54, ↓w4_55, ↓w4_56, ↓w4_59, ↓w4_60, ↓w4_61, ↓w4_62, ↓w4_63, ↓w4_64, ↓w4_65, ↓w4_66, ↓w4_67, ↓w4_70, ↓w4_73, ↓w4_76, ↓w4_79, ↓kc_i, ↓kc_l, ↓kc_r, ↓kc_n, mul8, mul8', mul4, mul4', nI_add, inT, nclN, ltT, ltF, leT, leF, eqT, eqF, nzF, m1F, m1T, shr, shg, bI0, bI1, bo_bI, bo_1, bo_0, eq10, eq00, frT1, frT2, frT3, fit0, fit1, fit2, fit3, true_and, and_true, ↓reduceIte, Nat.reduceAdd, Nat.reduceMul, and_self, not_false_eq_true, not_true_eq_false, Nat.zero_add, Nat.add_zero]
  rw [e]
  refine w4_2.trans ?_
  simp (discharger := omega) only [↓w4_0, ↓w4_1, ↓w4_3, ↓w4_4, ↓w4_7, ↓w4_10, ↓w4_11, ↓w4_14, ↓w4_15, ↓w4_16, ↓w4_17, ↓w4_18, ↓w4_20, ↓w4_21, ↓w4_24, ↓w4_25, ↓w4_26, ↓w4_27, ↓w4_30, ↓w4_33, ↓w4_34, ↓w4_35, ↓w4_36, ↓w4_37, ↓w4_40, ↓w4_43, ↓w4_44, ↓w4_47, ↓w4_48, ↓w4_49, ↓w4_50, ↓w4_51, ↓w4_52, ↓w4_53, ↓w4_54, ↓w4_55, ↓w4_56, ↓w4_59, ↓w4_60, ↓w4_61, ↓w4_62, ↓w4_63, ↓w4_64, ↓w4_65, ↓w4_66, ↓w4_67, ↓w4_70, ↓w4_73, ↓w4_76, ↓w4_79, rc83, g83_0, p83_0, g83_1, p83_1, g83_2, p83_2, g83_3, g83_4, g83_5, g83_6, g83_7, g83_8, gi88, si88, i83, hM, ↓kc_i, ↓kc_l, ↓kc_r, ↓kc_n, mul8, mul8', mul4, mul4', nI_add, inT, nclN, ltT, ltF, leT, leF, eqT, eqF, nzF, m1F, m1T, shr, shg, bI0, bI1, bo_bI, bo_1, bo_0, eq10, eq00, frT1, frT2, frT3, fit0, fit1, fit2, fit3, true_and, and_true, ↓reduceIte, Nat.reduceAdd, Nat.reduceMul, and_self, not_false_eq_true, not_true_eq_false, Nat.zero_add, Nat.add_zero]
  exact Eq.refl _
end H0
