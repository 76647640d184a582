/-! THE MODEL LAYS WHAT IT READ -/
def laI (I : Mi) : Mi := st (st (st (st (st (st (st (st I 422 (va_cpy (I 422) (I 422) 3 0 3)) 424 (va_cpy (I 424) (I 424) 8 0 8)) 425 (va_cpy (I 425) (I 425) 8 0 8)) 426 (va_cpy (I 426) (I 426) 8 0 8)) 427 (va_cpy (I 427) (I 427) 8 0 8)) 430 (va_cpy (I 430) (I 430) 1000 0 1000)) 428 (upd (I 428) 0 (I 428 1 - nI 1000))) 429 (upd (I 429) 0 (I 429 1 - nI 1000))
def fD2 (I I' : Mi) : Prop := ∀ a, (a < 433 ∨ 442 < a) → a ≠ 457 → I' a = I a
section N4
variable {L : Nat} {xs : Nat → Int32} {d : Nat} {P : Option Value → Hp → Prop} {I I' I2 I3 I1 : Mi} {J J' J2 : Mj} {R : Mr} {Z : Mz} {k n i j p w m c e a b sz F M : Nat} {v x y : Int32} {g : Nat → Nat} {D : Dg} {f f' : Nat → Int32} {q : Nat → Bool}
theorem m_shifts (ha : 64 ≤ a) (h : SHT[a - 64]? = some (0, sz, [])) (hm : 2 * m ≤ sz) (hz : sz < 10000) : Wp L xs d 200 0 [some (.ref (a)), some (.int (nI m)), none] [] (mk I J R Z) P = P none (mk (st I a (va_cpy (I a) (I a) m 0 m)) J R Z) := by
  have gi' := fun (I : Mi) (i : Int32) (K : Int32 → Prop) => giM (L := L) (xs := xs) (I := I) (J := J) (R := R) (Z := Z) (i := i) (K := K) ha h (Or.inl rfl)
  have si' := fun (I : Mi) (i x : Int32) (K : Hp → Prop) => siM (I := I) (J := J) (R := R) (Z := Z) (i := i) (x := x) (K := K) ha h (Or.inl rfl)
  have na0 : ∀ x, na 0 x = x := fun x => rfl
  have key : ∀ k, k ≤ m → Wp L xs d 200 2 [some (.ref (a)), some (.int (nI m)), some (.int (nI 0))] [] (mk I J R Z) P = Wp L xs d 200 2 [some (.ref (a)), some (.int (nI m)), some (.int (nI k))] [] (mk (st I a (va_cpy (I a) (I a) m 0 k)) J R Z) P := by
    intro k
    induction k with
    | zero => intro _; rw [cpy_0, st_id]
    | succ k ih =>
      intro hk
      rw [ih (by omega)]
      refine w200_2.trans ?_
      have o1 : va_cpy (I a) (I a) m 0 k (m + k) = I a (m + k) := cpy_o (by omega)
      have q1 : upd (va_cpy (I a) (I a) m 0 k) k (I a (m + k)) = va_cpy (I a) (I a) m 0 (k + 1) := by
        have := cpy_s (f := I a) (g := I a) (A := m) (B := 0) (n := k) (x := I a (m + k)) rfl
        rwa [Nat.zero_add] at this
      simp (discharger := omega) only [↓w200_0, ↓w200_1, ↓w200_3, ↓w200_4, ↓w200_7, ↓w200_8, ↓w200_9, ↓w200_10, ↓w200_11, ↓w200_12, ↓w200_13, ↓w200_14, ↓w200_15, ↓w200_18, ↓w200_21, gi', si', na0, st_eq, st_st, o1, q1, mul8, mul8', mul4, mul4', nI_add, inT, nclN, ltT, ltF, leT, leF, eqT, eqF, nzF, m1F, m1T, shr, shg, bI0, bI1, bo_bI, bo_1, bo_0, eq10, eq00, frT1, frT2, frT3, fit0, fit1, fit2, fit3, true_and, and_true, ↓reduceIte, Nat.reduceAdd, Nat.reduceMul, and_self, not_false_eq_true, not_true_eq_false, Nat.zero_add, Nat.add_zero]
  simp (discharger := omega) only [↓w200_0, ↓w200_1, ↓w200_3, ↓w200_4, ↓w200_7, ↓w200_8, ↓w200_9, ↓w200_10, ↓w200_11, ↓w200_12, ↓w200_13, ↓w200_14, ↓w200_15, ↓w200_18, ↓w200_21, mul8, mul8', mul4, mul4', nI_add, inT, nclN, ltT, ltF, leT, leF, eqT, eqF, nzF, m1F, m1T, shr, shg, bI0, bI1, bo_bI, bo_1, bo_0, eq10, eq00, frT1, frT2, frT3, fit0, fit1, fit2, fit3, true_and, and_true, ↓reduceIte, Nat.reduceAdd, Nat.reduceMul, and_self, not_false_eq_true, not_true_eq_false, Nat.zero_add, Nat.add_zero]
  rw [key m (Nat.le_refl _)]
  refine w200_2.trans ?_
  simp (discharger := omega) only [↓w200_0, ↓w200_1, ↓w200_3, ↓w200_4, ↓w200_7, ↓w200_8, ↓w200_9, ↓w200_10, ↓w200_11, ↓w200_12, ↓w200_13, ↓w200_14, ↓w200_15, ↓w200_18, ↓w200_21, mul8, mul8', mul4, mul4', nI_add, inT, nclN, ltT, ltF, leT, leF, eqT, eqF, nzF, m1F, m1T, shr, shg, bI0, bI1, bo_bI, bo_1, bo_0, eq10, eq00, frT1, frT2, frT3, fit0, fit1, fit2, fit3, true_and, and_true, ↓reduceIte, Nat.reduceAdd, Nat.reduceMul, and_self, not_false_eq_true, not_true_eq_false, Nat.zero_add, Nat.add_zero]
theorem m_lays : Wp L xs (d+1) 201 0 [some (.ref (420)), none] [] (mk I J R Z) P = P none (mk (laI I) (st J 423 (va_cpy (J 423) (J 423) 8 0 8)) R Z) := by
  have s1 := fun I J P => m_shifts (L := L) (xs := xs) (d := d) (P := P) (I := I) (J := J) (R := R) (Z := Z) (a := 422) (m := 3) (by decide) rfl (by decide) (by decide)
  have s2 := fun I J P => m_shifts (L := L) (xs := xs) (d := d) (P := P) (I := I) (J := J) (R := R) (Z := Z) (a := 424) (m := 8) (by decide) rfl (by decide) (by decide)
  have s3 := fun I J P => m_shifts (L := L) (xs := xs) (d := d) (P := P) (I := I) (J := J) (R := R) (Z := Z) (a := 425) (m := 8) (by decide) rfl (by decide) (by decide)
  have s4 := fun I J P => m_shifts (L := L) (xs := xs) (d := d) (P := P) (I := I) (J := J) (R := R) (Z := Z) (a := 426) (m := 8) (by decide) rfl (by decide) (by decide)
  have s5 := fun I J P => m_shifts (L := L) (xs := xs) (d := d) (P := P) (I := I) (J := J) (R := R) (Z := Z) (a := 427) (m := 8) (by decide) rfl (by decide) (by decide)
  have s6 := fun I J P => m_shifts (L := L) (xs := xs) (d := d) (P := P) (I := I) (J := J) (R := R) (Z := Z) (a := 430) (m := 1000) (by decide) rfl (by decide) (by decide)
  have key : ∀ (I : Mi) P, ∀ k, k ≤ 8 → Wp L xs (d+1) 201 10 [some (.ref (420)), some (.int (nI 0))] [] (mk I J R Z) P = Wp L xs (d+1) 201 10 [some (.ref (420)), some (.int (nI k))] [] (mk I (st J 423 (va_cpy (J 423) (J 423) 8 0 k)) R Z) P := by
    intro I P k
    induction k with
    | zero =>
      intro _
      have : va_cpy (J 423) (J 423) 8 0 0 = J 423 := by funext q; unfold va_cpy; rw [if_neg (by omega)]
      rw [this, st_id]
    | succ k ih =>
      intro hk
      rw [ih (by omega)]
      refine w201_10.trans ?_
      have o1 : va_cpy (J 423) (J 423) 8 0 k (8 + k) = J 423 (8 + k) := by unfold va_cpy; rw [if_neg (by omega)]
      have q1 : vp_updL (va_cpy (J 423) (J 423) 8 0 k) k (J 423 (8 + k)) = va_cpy (J 423) (J 423) 8 0 (k + 1) := by
        funext q; unfold vp_updL va_cpy
        by_cases e : q = k
        · subst e; rw [if_pos rfl, if_pos (by omega)]; congr 1
        · rw [if_neg e]
          by_cases e2 : 0 ≤ q ∧ q < 0 + k
          · rw [if_pos e2, if_pos (by omega)]
          · rw [if_neg e2, if_neg (by omega)]
      simp (discharger := omega) only [↓w201_0, ↓w201_1, ↓w201_4, ↓w201_5, ↓w201_8, ↓w201_9, ↓w201_11, ↓w201_13, ↓w201_16, ↓w201_17, ↓w201_20, ↓w201_21, ↓w201_22, ↓w201_25, ↓w201_27, ↓w201_28, ↓w201_29, ↓w201_30, ↓w201_31, ↓w201_34, ↓w201_37, ↓w201_38, ↓w201_41, ↓w201_43, ↓w201_46, ↓w201_47, ↓w201_50, ↓w201_52, ↓w201_55, ↓w201_56, ↓w201_59, ↓w201_61, ↓w201_64, ↓w201_65, ↓w201_68, ↓w201_70, ↓w201_73, ↓w201_74, ↓w201_77, ↓w201_80, ↓w201_83, ↓w201_84, ↓w201_87, ↓w201_88, ↓w201_89, ↓w201_92, ↓w201_93, ↓w201_94, ↓w201_97, ↓w201_98, ↓w201_99, ↓w201_100, ↓w201_103, ↓w201_104, ↓w201_105, ↓w201_108, ↓w201_109, ↓w201_110, ↓w201_113, ↓w201_114, ↓w201_115, rc420, g420_0, p420_0, g420_1, p420_1, g420_2, g420_3, p420_3, g420_4, p420_4, g420_5, p420_5, g420_6, p420_6, g420_7, p420_7, g420_8, p420_8, g420_9, p420_9, g420_10, g420_11, g420_12, g420_13, g420_14, g420_15, g420_16, g420_17, g420_18, g420_19, p420_19, g420_20, g420_21, g420_22, g420_23, g420_24, g420_25, g420_26, g420_27, g420_28, g420_29, g420_30, g420_31, g420_32, p420_32, g420_33, g420_34, g420_35, g420_36, g420_37, g420_38, g420_39, g420_40, g420_41, g420_42, g420_43, g420_44, g420_45, g420_46, g420_47, p420_47, g420_48, g420_49, p420_49, gl423, sl423, st_eq, st_st, o1, q1, mul8, mul8', mul4, mul4', nI_add, inT, nclN, ltT, ltF, leT, leF, eqT, eqF, nzF, m1F, m1T, shr, shg, bI0, bI1, bo_bI, bo_1, bo_0, eq10, eq00, frT1, frT2, frT3, fit0, fit1, fit2, fit3, true_and, and_true, ↓reduceIte, Nat.reduceAdd, Nat.reduceMul, and_self, not_false_eq_true, not_true_eq_false, Nat.zero_add, Nat.add_zero]
  simp (discharger := omega) only [↓w201_0, ↓w201_1, ↓w201_4, ↓w201_5, ↓w201_8, ↓w201_9, ↓w201_11, ↓w201_13, ↓w201_16, ↓w201_17, ↓w201_20, ↓w201_21, ↓w201_22, ↓w201_25, ↓w201_27, ↓w201_28, ↓w201_29, ↓w201_30, ↓w201_31, ↓w201_34, ↓w201_37, ↓w201_38, ↓w201_41, ↓w201_43, ↓w201_46, ↓w201_47, ↓w201_50, ↓w201_52, ↓w201_55, ↓w201_56, ↓w201_59, ↓w201_61, ↓w201_64, ↓w201_65, ↓w201_68, ↓w201_70, ↓w201_73, ↓w201_74, ↓w201_77, ↓w201_80, ↓w201_83, ↓w201_84, ↓w201_87, ↓w201_88, ↓w201_89, ↓w201_92, ↓w201_93, ↓w201_94, ↓w201_97, ↓w201_98, ↓w201_99, ↓w201_100, ↓w201_103, ↓w201_104, ↓w201_105, ↓w201_108, ↓w201_109, ↓w201_110, ↓w201_113, ↓w201_114, ↓w201_115, rc420, g420_0, p420_0, g420_1, p420_1, g420_2, g420_3, p420_3, g420_4, p420_4, g420_5, p420_5, g420_6, p420_6, g420_7, p420_7, g420_8, p420_8, g420_9, p420_9, g420_10, g420_11, g420_12, g420_13, g420_14, g420_15, g420_16, g420_17, g420_18, g420_19, p420_19, g420_20, g420_21, g420_22, g420_23, g420_24, g420_25, g420_26, g420_27, g420_28, g420_29, g420_30, g420_31, g420_32, p420_32, g420_33, g420_34, g420_35, g420_36, g420_37, g420_38, g420_39, g420_40, g420_41, g420_42, g420_43, g420_44, g420_45, g420_46, g420_47, p420_47, g420_48, g420_49, p420_49, ↓s1, ↓kc_i, ↓kc_l, ↓kc_r, ↓kc_n, mul8, mul8', mul4, mul4', nI_add, inT, nclN, ltT, ltF, leT, leF, eqT, eqF, nzF, m1F, m1T, shr, shg, bI0, bI1, bo_bI, bo_1, bo_0, eq10, eq00, frT1, frT2, frT3, fit0, fit1, fit2, fit3, true_and, and_true, ↓reduceIte, Nat.reduceAdd, Nat.reduceMul, and_self, not_false_eq_true, not_true_eq_false, Nat.zero_add, Nat.add_zero]
  rw [key _ _ 8 (Nat.le_refl _)]
  refine w201_10.trans ?_
  unfold laI
  simp (discharger := omega) only [↓w201_0, ↓w201_1, ↓w201_4, ↓w201_5, ↓w201_8, ↓w201_9, ↓w201_11, ↓w201_13, ↓w201_16, ↓w201_17, ↓w201_20, ↓w201_21, ↓w201_22, ↓w201_25, ↓w201_27, ↓w201_28, ↓w201_29, ↓w201_30, ↓w201_31, ↓w201_34, ↓w201_37, ↓w201_38, ↓w201_41, ↓w201_43, ↓w201_46, ↓w201_47, ↓w201_50, ↓w201_52, ↓w201_55, ↓w201_56, ↓w201_59, ↓w201_61, ↓w201_64, ↓w201_65, ↓w201_68, ↓w201_70, ↓w201_73, ↓w201_74, ↓w201_77, ↓w201_80, ↓w201_83, ↓w201_84, ↓w201_87, ↓w201_88, ↓w201_89, ↓w201_92, ↓w201_93, ↓w201_94, ↓w201_97, ↓w201_98, ↓w201_99, ↓w201_100, ↓w201_103, ↓w201_104, ↓w201_105, ↓w201_108, ↓w201_109, ↓w201_110, ↓w201_113, ↓w201_114, ↓w201_115, rc420, g420_0, p420_0, g420_1, p420_1, g420_2, g420_3, p420_3, g420_4, p420_4, g420_5, p420_5, g420_6, p420_6, g420_7, p420_7, g420_8, p420_8, g420_9, p420_9, g420_10, g420_11, g420_12, g420_13, g420_14, g420_15, g420_16, g420_17, g420_18, g420_19, p420_19, g420_20, g420_21, g420_22, g420_23, g420_24, g420_25, g420_26, g420_27, g420_28, g420_29, g420_30, g420_31, g420_32, p420_32, g420_33, g420_34, g420_35, g420_36, g420_37, g420_38, g420_39, g420_40, g420_41, g420_42, g420_43, g420_44, g420_45, g420_46, g420_47, p420_47, g420_48, g420_49, p420_49, gi428, si428, gi429, si429, ↓s2, ↓s3, ↓s4, ↓s5, ↓s6, st_ne, ↓kc_i, ↓kc_l, ↓kc_r, ↓kc_n, mul8, mul8', mul4, mul4', nI_add, inT, nclN, ltT, ltF, leT, leF, eqT, eqF, nzF, m1F, m1T, shr, shg, bI0, bI1, bo_bI, bo_1, bo_0, eq10, eq00, frT1, frT2, frT3, fit0, fit1, fit2, fit3, true_and, and_true, ↓reduceIte, Nat.reduceAdd, Nat.reduceMul, and_self, not_false_eq_true, not_true_eq_false, Nat.zero_add, Nat.add_zero]
theorem la_o (h : a ≠ 422) (h' : a < 424 ∨ 430 < a) : laI I a = I a := by
  unfold laI
  rw [st_ne (by omega), st_ne (by omega), st_ne (by omega), st_ne (by omega), st_ne (by omega), st_ne (by omega), st_ne (by omega), st_ne h]
theorem la_422 (hk : k < 3) : laI I 422 k = I 422 (3 + k) := by
  unfold laI
  rw [st_ne (by decide), st_ne (by decide), st_ne (by decide), st_ne (by decide), st_ne (by decide), st_ne (by decide), st_ne (by decide), st_eq]
  have := cpy_i (f := I 422) (g := I 422) (A := 3) (B := 0) (n := 3) (k := k) hk
  rwa [Nat.zero_add] at this
theorem la_a (ha : 424 ≤ a ∧ a ≤ 427) (hk : k < 8) : laI I a k = I a (8 + k) := by
  have h8 : ∀ f : Nat → Int32, va_cpy f f 8 0 8 k = f (8 + k) := fun f => by
    have := cpy_i (f := f) (g := f) (A := 8) (B := 0) (n := 8) (k := k) hk
    rwa [Nat.zero_add] at this
  have h : a = 424 ∨ a = 425 ∨ a = 426 ∨ a = 427 := by omega
  unfold laI
  rcases h with rfl | rfl | rfl | rfl
  · rw [st_ne (by decide), st_ne (by decide), st_ne (by decide), st_ne (by decide), st_ne (by decide), st_ne (by decide), st_eq, h8]
  · rw [st_ne (by decide), st_ne (by decide), st_ne (by decide), st_ne (by decide), st_ne (by decide), st_eq, h8]
  · rw [st_ne (by decide), st_ne (by decide), st_ne (by decide), st_ne (by decide), st_eq, h8]
  · rw [st_ne (by decide), st_ne (by decide), st_ne (by decide), st_eq, h8]
theorem la_430 (hk : k < 1000) : laI I 430 k = I 430 (1000 + k) := by
  unfold laI
  rw [st_ne (by decide), st_ne (by decide), st_eq]
  have := cpy_i (f := I 430) (g := I 430) (A := 1000) (B := 0) (n := 1000) (k := k) hk
  rwa [Nat.zero_add] at this
theorem la_428 : laI I 428 0 = I 428 1 - nI 1000 := by unfold laI; rw [st_ne (by decide), st_eq, upd_eq]
theorem la_429 : laI I 429 0 = I 429 1 - nI 1000 := by unfold laI; rw [st_eq, upd_eq]
theorem MG_la (h : MD I J g n F D) : MG (laI I) g n F D := by
  obtain ⟨m0, m1, m2, m3, m4, m5, m6⟩ := h
  refine ⟨fun c hc => ?_, ?_, fun q => ?_, fun q => ?_⟩
  · obtain ⟨y1, y2, y3, y4, -⟩ := m3 c hc
    have hM8 := m2.2
    rw [la_a (by decide) (by omega), la_a (by decide) (by omega), la_a (by decide) (by omega), la_a (by decide) (by omega)]
    exact ⟨y1, y2, y3, y4⟩
  · rw [la_428, m4]; decide
  · rw [la_429, (m5 q).1]; decide
  · obtain ⟨h1, h2, h3⟩ := m6 q
    refine ⟨⟨fun k hk => ?_, ?_, by omega⟩, h1.1⟩
    · rw [la_430 (by omega)]; exact h3 k hk
    · rw [la_429, h2, nI_dif (by omega), show 1000 + ((pE g n F 0 0 D.2.2.2.2).1 - D.2.2.2.2) - 1000 = (pE g n F 0 0 D.2.2.2.2).1 - D.2.2.2.2 by omega]
theorem MG_f (h : MG I g n F D) (hf : fD2 I I') : MG I' g n F D := by
  obtain ⟨h1, h2, h3, h4⟩ := h
  have e : ∀ a, a < 433 → I' a = I a := fun a ha => hf a (Or.inl ha) (by omega)
  refine ⟨fun c hc => ?_, ?_, fun q => ?_, fun q => ?_⟩
  · rw [e 424 (by decide), e 425 (by decide), e 426 (by decide), e 427 (by decide)]; exact h1 c hc
  · rw [e 428 (by decide)]; exact h2
  · rw [e 429 (by decide)]; exact h3 q
  · unfold CdM; rw [e 430 (by decide), e 429 (by decide)]; exact h4 q
theorem fD2_t (h1 : fD2 I I') (h2 : fD2 I' I2) : fD2 I I2 := fun a q1 q2 => (h2 a q1 q2).trans (h1 a q1 q2)
theorem bm_s : bm (k + 1) q = if q k = true then bm k q ||| sg k else bm k q := rfl
theorem m_laysClashing (hG : MG I g n F D) (hW : WD g n F D) (hn : n ≤ 1000) (hM : I 422 2 = nI D.2.2.1) : ∃ I', (fD2 I I' ∧ I' 457 = fun a => if a < D.2.2.1 then bm D.2.2.1 (fun k => decide (a ≠ k) && clD g n F D a k) else if a < 8 then nI 0 else I 457 a) ∧ ∀ P, Wp L xs (d+4) 209 0 [some (.ref (420)), none, none] [] (mk I J R Z) P = P none (mk I' J R Z) := by
  have hM8 := hW.2.2.1
  have z1 : ∀ P k, k ≤ 8 → Wp L xs (d+4) 209 2 [some (.ref (420)), some (.int (nI 0)), none] [] (mk I J R Z) P = Wp L xs (d+4) 209 2 [some (.ref (420)), some (.int (nI k)), none] [] (mk (st I 457 (fun a => if a < k then nI 0 else I 457 a)) J R Z) P := by
    intro P k
    induction k with
    | zero =>
      intro _
      have : (fun a => if a < 0 then nI 0 else I 457 a) = I 457 := by funext q; rw [if_neg (by omega)]
      rw [this, st_id]
    | succ k ih =>
      intro hk
      rw [ih (by omega)]
      refine w209_2.trans ?_
      have q1 : upd (fun a => if a < k then nI 0 else I 457 a) k (nI 0) = fun a => if a < k + 1 then nI 0 else I 457 a := by
        funext q; unfold upd
        by_cases e : q = k
        · subst e; rw [if_pos rfl, if_pos (by omega)]
        · rw [if_neg e]
          dsimp only
          by_cases e2 : q < k
          · rw [if_pos e2, if_pos (by omega)]
          · rw [if_neg e2, if_neg (by omega)]
      simp (discharger := omega) only [↓w209_0, ↓w209_1, ↓w209_3, ↓w209_5, ↓w209_8, ↓w209_9, ↓w209_12, ↓w209_13, ↓w209_14, ↓w209_15, ↓w209_18, ↓w209_21, ↓w209_22, ↓w209_24, ↓w209_25, ↓w209_28, ↓w209_29, ↓w209_30, ↓w209_33, ↓w209_34, ↓w209_36, ↓w209_37, ↓w209_40, ↓w209_41, ↓w209_42, ↓w209_45, ↓w209_46, ↓w209_49, ↓w209_50, ↓w209_51, ↓w209_52, ↓w209_53, ↓w209_54, ↓w209_57, ↓w209_58, ↓w209_59, ↓w209_60, ↓w209_63, ↓w209_66, ↓w209_67, ↓w209_68, ↓w209_69, ↓w209_72, ↓w209_73, ↓w209_74, ↓w209_75, ↓w209_78, ↓w209_81, ↓w209_84, ↓w209_87, rc420, g420_0, p420_0, g420_1, p420_1, g420_2, g420_3, p420_3, g420_4, p420_4, g420_5, p420_5, g420_6, p420_6, g420_7, p420_7, g420_8, p420_8, g420_9, p420_9, g420_10, g420_11, g420_12, g420_13, g420_14, g420_15, g420_16, g420_17, g420_18, g420_19, p420_19, g420_20, g420_21, g420_22, g420_23, g420_24, g420_25, g420_26, g420_27, g420_28, g420_29, g420_30, g420_31, g420_32, p420_32, g420_33, g420_34, g420_35, g420_36, g420_37, g420_38, g420_39, g420_40, g420_41, g420_42, g420_43, g420_44, g420_45, g420_46, g420_47, p420_47, g420_48, g420_49, p420_49, gi457, si457, st_eq, st_st, q1, mul8, mul8', mul4, mul4', nI_add, inT, nclN, ltT, ltF, leT, leF, eqT, eqF, nzF, m1F, m1T, shr, shg, bI0, bI1, bo_bI, bo_1, bo_0, eq10, eq00, frT1, frT2, frT3, fit0, fit1, fit2, fit3, true_and, and_true, ↓reduceIte, Nat.reduceAdd, Nat.reduceMul, and_self, not_false_eq_true, not_true_eq_false, Nat.zero_add, Nat.add_zero]
  have inner : ∀ a, a < D.2.2.1 → ∀ I1, fD2 I I1 → I1 457 a = nI 0 → ∀ b, b ≤ D.2.2.1 → ∃ I2, (fD2 I I2 ∧ I2 457 = upd (I1 457) a (bm b (fun k => decide (a ≠ k) && clD g n F D a k))) ∧ ∀ P, Wp L xs (d+4) 209 35 [some (.ref (420)), some (.int (nI a)), some (.int (nI 0))] [] (mk I1 J R Z) P = Wp L xs (d+4) 209 35 [some (.ref (420)), some (.int (nI a)), some (.int (nI b))] [] (mk I2 J R Z) P := by
    intro a ha I1 hf h0 b
    induction b with
    | zero => intro _; exact ⟨I1, ⟨hf, by show I1 457 = upd (I1 457) a (nI 0); rw [← h0, upd_self]⟩, fun P => rfl⟩
    | succ b ih =>
      intro hb
      obtain ⟨I2, ⟨e1, e2⟩, e3⟩ := ih (by omega)
      have hM2 : I2 422 2 = nI D.2.2.1 := by rw [e1 422 (by decide) (by decide)]; exact hM
      have v2 : I2 457 a = bm b (fun k => decide (a ≠ k) && clD g n F D a k) := by rw [e2, upd_eq]
      rw [bm_s]
      by_cases hab : a = b
      · subst hab
        rw [if_neg (by simp)]
        have s1 : st I2 457 (upd (I2 457) a (I2 457 a)) = I2 := by rw [upd_self, st_id]
        refine ⟨I2, ⟨e1, e2⟩, fun P => (e3 P).trans (w209_35.trans ?_)⟩
        simp (discharger := omega) only [↓w209_0, ↓w209_1, ↓w209_3, ↓w209_5, ↓w209_8, ↓w209_9, ↓w209_12, ↓w209_13, ↓w209_14, ↓w209_15, ↓w209_18, ↓w209_21, ↓w209_22, ↓w209_24, ↓w209_25, ↓w209_28, ↓w209_29, ↓w209_30, ↓w209_33, ↓w209_34, ↓w209_36, ↓w209_37, ↓w209_40, ↓w209_41, ↓w209_42, ↓w209_45, ↓w209_46, ↓w209_49, ↓w209_50, ↓w209_51, ↓w209_52, ↓w209_53, ↓w209_54, ↓w209_57, ↓w209_58, ↓w209_59, ↓w209_60, ↓w209_63, ↓w209_66, ↓w209_67, ↓w209_68, ↓w209_69, ↓w209_72, ↓w209_73, ↓w209_74, ↓w209_75, ↓w209_78, ↓w209_81, ↓w209_84, ↓w209_87, rc420, g420_0, p420_0, g420_1, p420_1, g420_2, g420_3, p420_3, g420_4, p420_4, g420_5, p420_5, g420_6, p420_6, g420_7, p420_7, g420_8, p420_8, g420_9, p420_9, g420_10, g420_11, g420_12, g420_13, g420_14, g420_15, g420_16, g420_17, g420_18, g420_19, p420_19, g420_20, g420_21, g420_22, g420_23, g420_24, g420_25, g420_26, g420_27, g420_28, g420_29, g420_30, g420_31, g420_32, p420_32, g420_33, g420_34, g420_35, g420_36, g420_37, g420_38, g420_39, g420_40, g420_41, g420_42, g420_43, g420_44, g420_45, g420_46, g420_47, p420_47, g420_48, g420_49, p420_49, gi457, si457, gi422, si422, hM2, or_0, s1, mul8, mul8', mul4, mul4', nI_add, inT, nclN, ltT, ltF, leT, leF, eqT, eqF, nzF, m1F, m1T, shr, shg, bI0, bI1, bo_bI, bo_1, bo_0, eq10, eq00, frT1, frT2, frT3, fit0, fit1, fit2, fit3, true_and, and_true, ↓reduceIte, Nat.reduceAdd, Nat.reduceMul, and_self, not_false_eq_true, not_true_eq_false, Nat.zero_add, Nat.add_zero]
      · obtain ⟨I3, f3, d3⟩ := m_doClash (L := L) (xs := xs) (d := d) (J := J) (R := R) (Z := Z) (MG_f hG e1) hW hn ha (show b < D.2.2.1 by omega)
        have i3 : I3 457 = I2 457 := f3 457 (by decide)
        have f3' : fD2 I I3 := fun c x y => (f3 c x).trans (e1 c x y)
        cases hc : clD g n F D a b
        · rw [if_neg (by simp [hc])]
          rw [hc, bI_f] at d3
          have s1 : st I3 457 (upd (I3 457) a (I2 457 a)) = I3 := by rw [i3, upd_self, ← i3, st_id]
          refine ⟨I3, ⟨f3', by rw [i3, e2]⟩, fun P => (e3 P).trans (w209_35.trans ?_)⟩
          simp (discharger := omega) only [↓w209_0, ↓w209_1, ↓w209_3, ↓w209_5, ↓w209_8, ↓w209_9, ↓w209_12, ↓w209_13, ↓w209_14, ↓w209_15, ↓w209_18, ↓w209_21, ↓w209_22, ↓w209_24, ↓w209_25, ↓w209_28, ↓w209_29, ↓w209_30, ↓w209_33, ↓w209_34, ↓w209_36, ↓w209_37, ↓w209_40, ↓w209_41, ↓w209_42, ↓w209_45, ↓w209_46, ↓w209_49, ↓w209_50, ↓w209_51, ↓w209_52, ↓w209_53, ↓w209_54, ↓w209_57, ↓w209_58, ↓w209_59, ↓w209_60, ↓w209_63, ↓w209_66, ↓w209_67, ↓w209_68, ↓w209_69, ↓w209_72, ↓w209_73, ↓w209_74, ↓w209_75, ↓w209_78, ↓w209_81, ↓w209_84, ↓w209_87, rc420, g420_0, p420_0, g420_1, p420_1, g420_2, g420_3, p420_3, g420_4, p420_4, g420_5, p420_5, g420_6, p420_6, g420_7, p420_7, g420_8, p420_8, g420_9, p420_9, g420_10, g420_11, g420_12, g420_13, g420_14, g420_15, g420_16, g420_17, g420_18, g420_19, p420_19, g420_20, g420_21, g420_22, g420_23, g420_24, g420_25, g420_26, g420_27, g420_28, g420_29, g420_30, g420_31, g420_32, p420_32, g420_33, g420_34, g420_35, g420_36, g420_37, g420_38, g420_39, g420_40, g420_41, g420_42, g420_43, g420_44, g420_45, g420_46, g420_47, p420_47, g420_48, g420_49, p420_49, gi457, si457, gi422, si422, hM2, hab, ↓d3, or_0, s1, ↓kc_i, ↓kc_l, ↓kc_r, ↓kc_n, mul8, mul8', mul4, mul4', nI_add, inT, nclN, ltT, ltF, leT, leF, eqT, eqF, nzF, m1F, m1T, shr, shg, bI0, bI1, bo_bI, bo_1, bo_0, eq10, eq00, frT1, frT2, frT3, fit0, fit1, fit2, fit3, true_and, and_true, ↓reduceIte, Nat.reduceAdd, Nat.reduceMul, and_self, not_false_eq_true, not_true_eq_false, Nat.zero_add, Nat.add_zero]
        · rw [if_pos (by simp [hc, hab])]
          rw [hc, bI_t] at d3
          refine ⟨st I3 457 (upd (I3 457) a (I2 457 a ||| sg b)), ⟨fun c x y => (st_ne y).trans (f3' c x y), by rw [st_eq, i3, v2, e2, upd_upd]⟩, fun P => (e3 P).trans (w209_35.trans ?_)⟩
          simp (discharger := omega) only [↓w209_0, ↓w209_1, ↓w209_3, ↓w209_5, ↓w209_8, ↓w209_9, ↓w209_12, ↓w209_13, ↓w209_14, ↓w209_15, ↓w209_18, ↓w209_21, ↓w209_22, ↓w209_24, ↓w209_25, ↓w209_28, ↓w209_29, ↓w209_30, ↓w209_33, ↓w209_34, ↓w209_36, ↓w209_37, ↓w209_40, ↓w209_41, ↓w209_42, ↓w209_45, ↓w209_46, ↓w209_49, ↓w209_50, ↓w209_51, ↓w209_52, ↓w209_53, ↓w209_54, ↓w209_57, ↓w209_58, ↓w209_59, ↓w209_60, ↓w209_63, ↓w209_66, ↓w209_67, ↓w209_68, ↓w209_69, ↓w209_72, ↓w209_73, ↓w209_74, ↓w209_75, ↓w209_78, ↓w209_81, ↓w209_84, ↓w209_87, rc420, g420_0, p420_0, g420_1, p420_1, g420_2, g420_3, p420_3, g420_4, p420_4, g420_5, p420_5, g420_6, p420_6, g420_7, p420_7, g420_8, p420_8, g420_9, p420_9, g420_10, g420_11, g420_12, g420_13, g420_14, g420_15, g420_16, g420_17, g420_18, g420_19, p420_19, g420_20, g420_21, g420_22, g420_23, g420_24, g420_25, g420_26, g420_27, g420_28, g420_29, g420_30, g420_31, g420_32, p420_32, g420_33, g420_34, g420_35, g420_36, g420_37, g420_38, g420_39, g420_40, g420_41, g420_42, g420_43, g420_44, g420_45, g420_46, g420_47, p420_47, g420_48, g420_49, p420_49, gi457, si457, gi422, si422, hM2, hab, ↓d3, ↓kc_i, ↓kc_l, ↓kc_r, ↓kc_n, mul8, mul8', mul4, mul4', nI_add, inT, nclN, ltT, ltF, leT, leF, eqT, eqF, nzF, m1F, m1T, shr, shg, bI0, bI1, bo_bI, bo_1, bo_0, eq10, eq00, frT1, frT2, frT3, fit0, fit1, fit2, fit3, true_and, and_true, ↓reduceIte, Nat.reduceAdd, Nat.reduceMul, and_self, not_false_eq_true, not_true_eq_false, Nat.zero_add, Nat.add_zero]
  generalize hz : (fun a => if a < 8 then nI 0 else I 457 a) = fz
  have outer : ∀ m, m ≤ D.2.2.1 → ∃ I2 t, (fD2 I I2 ∧ I2 457 = fun a => if a < m then bm D.2.2.1 (fun k => decide (a ≠ k) && clD g n F D a k) else fz a) ∧ ∀ P, Wp L xs (d+4) 209 23 [some (.ref (420)), some (.int (nI 0)), none] [] (mk (st I 457 fz) J R Z) P = Wp L xs (d+4) 209 23 [some (.ref (420)), some (.int (nI m)), t] [] (mk I2 J R Z) P := by
    intro m
    induction m with
    | zero => intro _; exact ⟨st I 457 fz, none, ⟨fun c x y => st_ne y, by rw [st_eq]; funext q; rw [if_neg (by omega)]⟩, fun P => rfl⟩
    | succ m ih =>
      intro hm
      obtain ⟨I2, t, ⟨e1, e2⟩, e3⟩ := ih (by omega)
      have h0 : I2 457 m = nI 0 := by rw [e2]; dsimp only; rw [if_neg (by omega), ← hz]; dsimp only; rw [if_pos (by omega)]
      obtain ⟨I3, ⟨f1, f2⟩, f3⟩ := inner m (by omega) I2 e1 h0 D.2.2.1 (Nat.le_refl _)
      have hM2 : I2 422 2 = nI D.2.2.1 := by rw [e1 422 (by decide) (by decide)]; exact hM
      have hM3 : I3 422 2 = nI D.2.2.1 := by rw [f1 422 (by decide) (by decide)]; exact hM
      refine ⟨I3, some (.int (nI D.2.2.1)), ⟨f1, ?_⟩, fun P => (e3 P).trans (w209_23.trans ?_)⟩
      · rw [f2, e2]; funext q; unfold upd
        by_cases e : q = m
        · subst e; rw [if_pos rfl, if_pos (by omega)]
        · rw [if_neg e]; dsimp only
          by_cases h : q < m
          · rw [if_pos h, if_pos (by omega)]
          · rw [if_neg h, if_neg (by omega)]
      · simp (discharger := omega) only [↓w209_0, ↓w209_1, ↓w209_3, ↓w209_5, ↓w209_8, ↓w209_9, ↓w209_12, ↓w209_13, ↓w209_14, ↓w209_15, ↓w209_18, ↓w209_21, ↓w209_22, ↓w209_24, ↓w209_25, ↓w209_28, ↓w209_29, ↓w209_30, ↓w209_33, ↓w209_34, ↓w209_36, ↓w209_37, ↓w209_40, ↓w209_41, ↓w209_42, ↓w209_45, ↓w209_46, ↓w209_49, ↓w209_50, ↓w209_51, ↓w209_52, ↓w209_53, ↓w209_54, ↓w209_57, ↓w209_58, ↓w209_59, ↓w209_60, ↓w209_63, ↓w209_66, ↓w209_67, ↓w209_68, ↓w209_69, ↓w209_72, ↓w209_73, ↓w209_74, ↓w209_75, ↓w209_78, ↓w209_81, ↓w209_84, ↓w209_87, rc420, g420_0, p420_0, g420_1, p420_1, g420_2, g420_3, p420_3, g420_4, p420_4, g420_5, p420_5, g420_6, p420_6, g420_7, p420_7, g420_8, p420_8, g420_9, p420_9, g420_10, g420_11, g420_12, g420_13, g420_14, g420_15, g420_16, g420_17, g420_18, g420_19, p420_19, g420_20, g420_21, g420_22, g420_23, g420_24, g420_25, g420_26, g420_27, g420_28, g420_29, g420_30, g420_31, g420_32, p420_32, g420_33, g420_34, g420_35, g420_36, g420_37, g420_38, g420_39, g420_40, g420_41, g420_42, g420_43, g420_44, g420_45, g420_46, g420_47, p420_47, g420_48, g420_49, p420_49, gi422, si422, hM2, mul8, mul8', mul4, mul4', nI_add, inT, nclN, ltT, ltF, leT, leF, eqT, eqF, nzF, m1F, m1T, shr, shg, bI0, bI1, bo_bI, bo_1, bo_0, eq10, eq00, frT1, frT2, frT3, fit0, fit1, fit2, fit3, true_and, and_true, ↓reduceIte, Nat.reduceAdd, Nat.reduceMul, and_self, not_false_eq_true, not_true_eq_false, Nat.zero_add, Nat.add_zero]
        rw [f3]
        refine w209_35.trans ?_
        simp (discharger := omega) only [↓w209_0, ↓w209_1, ↓w209_3, ↓w209_5, ↓w209_8, ↓w209_9, ↓w209_12, ↓w209_13, ↓w209_14, ↓w209_15, ↓w209_18, ↓w209_21, ↓w209_22, ↓w209_24, ↓w209_25, ↓w209_28, ↓w209_29, ↓w209_30, ↓w209_33, ↓w209_34, ↓w209_36, ↓w209_37, ↓w209_40, ↓w209_41, ↓w209_42, ↓w209_45, ↓w209_46, ↓w209_49, ↓w209_50, ↓w209_51, ↓w209_52, ↓w209_53, ↓w209_54, ↓w209_57, ↓w209_58, ↓w209_59, ↓w209_60, ↓w209_63, ↓w209_66, ↓w209_67, ↓w209_68, ↓w209_69, ↓w209_72, ↓w209_73, ↓w209_74, ↓w209_75, ↓w209_78, ↓w209_81, ↓w209_84, ↓w209_87, rc420, g420_0, p420_0, g420_1, p420_1, g420_2, g420_3, p420_3, g420_4, p420_4, g420_5, p420_5, g420_6, p420_6, g420_7, p420_7, g420_8, p420_8, g420_9, p420_9, g420_10, g420_11, g420_12, g420_13, g420_14, g420_15, g420_16, g420_17, g420_18, g420_19, p420_19, g420_20, g420_21, g420_22, g420_23, g420_24, g420_25, g420_26, g420_27, g420_28, g420_29, g420_30, g420_31, g420_32, p420_32, g420_33, g420_34, g420_35, g420_36, g420_37, g420_38, g420_39, g420_40, g420_41, g420_42, g420_43, g420_44, g420_45, g420_46, g420_47, p420_47, g420_48, g420_49, p420_49, gi422, si422, hM3, mul8, mul8', mul4, mul4', nI_add, inT, nclN, ltT, ltF, leT, leF, eqT, eqF, nzF, m1F, m1T, shr, shg, bI0, bI1, bo_bI, bo_1, bo_0, eq10, eq00, frT1, frT2, frT3, fit0, fit1, fit2, fit3, true_and, and_true, ↓reduceIte, Nat.reduceAdd, Nat.reduceMul, and_self, not_false_eq_true, not_true_eq_false, Nat.zero_add, Nat.add_zero]
  obtain ⟨I2, t, ⟨e1, e2⟩, e3⟩ := outer D.2.2.1 (Nat.le_refl _)
  have hM2 : I2 422 2 = nI D.2.2.1 := by rw [e1 422 (by decide) (by decide)]; exact hM
  refine ⟨I2, ⟨e1, by rw [e2, ← hz]⟩, fun P => ?_⟩
  have z2 := fun P => z1 P 8 (Nat.le_refl _)
  rw [hz] at z2
  simp (discharger := omega) only [↓w209_0, ↓w209_1, ↓w209_3, ↓w209_5, ↓w209_8, ↓w209_9, ↓w209_12, ↓w209_13, ↓w209_14, ↓w209_15, ↓w209_18, ↓w209_21, ↓w209_22, ↓w209_24, ↓w209_25, ↓w209_28, ↓w209_29, ↓w209_30, ↓w209_33, ↓w209_34, ↓w209_36, ↓w209_37, ↓w209_40, ↓w209_41, ↓w209_42, ↓w209_45, ↓w209_46, ↓w209_49, ↓w209_50, ↓w209_51, ↓w209_52, ↓w209_53, ↓w209_54, ↓w209_57, ↓w209_58, ↓w209_59, ↓w209_60, ↓w209_63, ↓w209_66, ↓w209_67, ↓w209_68, ↓w209_69, ↓w209_72, ↓w209_73, ↓w209_74, ↓w209_75, ↓w209_78, ↓w209_81, ↓w209_84, ↓w209_87, mul8, mul8', mul4, mul4', nI_add, inT, nclN, ltT, ltF, leT, leF, eqT, eqF, nzF, m1F, m1T, shr, shg, bI0, bI1, bo_bI, bo_1, bo_0, eq10, eq00, frT1, frT2, frT3, fit0, fit1, fit2, fit3, true_and, and_true, ↓reduceIte, Nat.reduceAdd, Nat.reduceMul, and_self, not_false_eq_true, not_true_eq_false, Nat.zero_add, Nat.add_zero]
  rw [z2]
  refine w209_2.trans ?_
  simp (discharger := omega) only [↓w209_0, ↓w209_1, ↓w209_3, ↓w209_5, ↓w209_8, ↓w209_9, ↓w209_12, ↓w209_13, ↓w209_14, ↓w209_15, ↓w209_18, ↓w209_21, ↓w209_22, ↓w209_24, ↓w209_25, ↓w209_28, ↓w209_29, ↓w209_30, ↓w209_33, ↓w209_34, ↓w209_36, ↓w209_37, ↓w209_40, ↓w209_41, ↓w209_42, ↓w209_45, ↓w209_46, ↓w209_49, ↓w209_50, ↓w209_51, ↓w209_52, ↓w209_53, ↓w209_54, ↓w209_57, ↓w209_58, ↓w209_59, ↓w209_60, ↓w209_63, ↓w209_66, ↓w209_67, ↓w209_68, ↓w209_69, ↓w209_72, ↓w209_73, ↓w209_74, ↓w209_75, ↓w209_78, ↓w209_81, ↓w209_84, ↓w209_87, mul8, mul8', mul4, mul4', nI_add, inT, nclN, ltT, ltF, leT, leF, eqT, eqF, nzF, m1F, m1T, shr, shg, bI0, bI1, bo_bI, bo_1, bo_0, eq10, eq00, frT1, frT2, frT3, fit0, fit1, fit2, fit3, true_and, and_true, ↓reduceIte, Nat.reduceAdd, Nat.reduceMul, and_self, not_false_eq_true, not_true_eq_false, Nat.zero_add, Nat.add_zero]
  rw [e3]
  refine w209_23.trans ?_
  simp (discharger := omega) only [↓w209_0, ↓w209_1, ↓w209_3, ↓w209_5, ↓w209_8, ↓w209_9, ↓w209_12, ↓w209_13, ↓w209_14, ↓w209_15, ↓w209_18, ↓w209_21, ↓w209_22, ↓w209_24, ↓w209_25, ↓w209_28, ↓w209_29, ↓w209_30, ↓w209_33, ↓w209_34, ↓w209_36, ↓w209_37, ↓w209_40, ↓w209_41, ↓w209_42, ↓w209_45, ↓w209_46, ↓w209_49, ↓w209_50, ↓w209_51, ↓w209_52, ↓w209_53, ↓w209_54, ↓w209_57, ↓w209_58, ↓w209_59, ↓w209_60, ↓w209_63, ↓w209_66, ↓w209_67, ↓w209_68, ↓w209_69, ↓w209_72, ↓w209_73, ↓w209_74, ↓w209_75, ↓w209_78, ↓w209_81, ↓w209_84, ↓w209_87, rc420, g420_0, p420_0, g420_1, p420_1, g420_2, g420_3, p420_3, g420_4, p420_4, g420_5, p420_5, g420_6, p420_6, g420_7, p420_7, g420_8, p420_8, g420_9, p420_9, g420_10, g420_11, g420_12, g420_13, g420_14, g420_15, g420_16, g420_17, g420_18, g420_19, p420_19, g420_20, g420_21, g420_22, g420_23, g420_24, g420_25, g420_26, g420_27, g420_28, g420_29, g420_30, g420_31, g420_32, p420_32, g420_33, g420_34, g420_35, g420_36, g420_37, g420_38, g420_39, g420_40, g420_41, g420_42, g420_43, g420_44, g420_45, g420_46, g420_47, p420_47, g420_48, g420_49, p420_49, gi422, si422, hM2, mul8, mul8', mul4, mul4', nI_add, inT, nclN, ltT, ltF, leT, leF, eqT, eqF, nzF, m1F, m1T, shr, shg, bI0, bI1, bo_bI, bo_1, bo_0, eq10, eq00, frT1, frT2, frT3, fit0, fit1, fit2, fit3, true_and, and_true, ↓reduceIte, Nat.reduceAdd, Nat.reduceMul, and_self, not_false_eq_true, not_true_eq_false, Nat.zero_add, Nat.add_zero]
end N4
