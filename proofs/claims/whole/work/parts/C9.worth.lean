/-! THE CLASS WORKS E OUT: h how high the stack is, σ what lies on it -/
abbrev Sk : Type := Nat × (Nat → Int32)
def sk (I : Mi) (u : Sk) : Mi := st (st I 73 (upd (I 73) 3 (nI u.1))) 75 u.2
def phC (I : Mi) (c o : Nat) : Int32 → Int32 := fun k => if k = -3 then ab (I 85 c - I 85 o) else if k = -2 then mx (I 86 c) (I 86 o) else if k = -1 then mn (I 86 c) (I 86 o) else bI (decide (I 87 c = I 87 o))
section G9
variable {L : Nat} {xs : Nat → Int32} {d : Nat} {P : Option Value → Hp → Prop} {I I' : Mi} {J J' : Mj} {R R' : Mr} {Z : Mz} {k n i p w m T lv dep F z c o h : Nat} {g : Nat → Nat} {φ σ : Nat → Int32} {u : Sk} {x y : Int32} {r : Er} {Q : Nat → Er} {v : Int32} {cs : List Int32}
theorem sk73_3 : sk I u 73 3 = nI u.1 := by unfold sk; rw [st_ne (by decide), st_eq, upd_eq]
theorem sk73_1 : sk I u 73 1 = I 73 1 := by unfold sk; rw [st_ne (by decide), st_eq, upd_ne (by decide)]
theorem sk73 : sk I u 73 = upd (I 73) 3 (nI u.1) := by unfold sk; rw [st_ne (by decide), st_eq]
theorem sk75 : sk I u 75 = u.2 := by unfold sk; rw [st_eq]
theorem sko {a : Nat} (h : a ≠ 73) (h' : a ≠ 75) : sk I u a = I a := by unfold sk; rw [st_ne h', st_ne h]
theorem sk_w : st (st (sk I u) 75 σ) 73 (upd (upd (I 73) 3 (nI u.1)) 3 (nI h)) = sk I (h, σ) := by
  unfold sk
  funext q
  by_cases h1 : q = 73
  · subst h1; rw [st_eq, st_ne (by decide), st_eq, upd_upd]
  · rw [st_ne h1]
    by_cases h2 : q = 75
    · subst h2; rw [st_eq, st_eq]
    · rw [st_ne h2, st_ne h2, st_ne h1, st_ne h2, st_ne h1]
theorem sk_w3 : st (sk I u) 73 (upd (upd (I 73) 3 (nI u.1)) 3 (nI h)) = sk I (h, u.2) := by
  have := sk_w (I := I) (u := u) (σ := u.2) (h := h)
  rw [show st (sk I u) 75 u.2 = sk I u by conv => lhs; rw [← sk75 (I := I) (u := u)]
                                          exact st_id] at this
  exact this
theorem k_push (hh : u.1 < 64) : Wp L xs d 20 0 [some (.ref (73)), some (.int (x))] [] (mk (sk I u) J R Z) P = P none (mk (sk I (u.1 + 1, upd u.2 u.1 x)) J R Z) := by
  simp (discharger := omega) only [↓w20_0, ↓w20_1, ↓w20_4, ↓w20_6, ↓w20_9, ↓w20_10, ↓w20_13, ↓w20_14, ↓w20_17, ↓w20_18, ↓w20_19, ↓w20_20, ↓w20_21, ↓w20_24, ↓w20_25, ↓w20_26, ↓w20_29, rc73, g73_0, g73_1, p73_1, g73_2, g73_3, p73_3, gi75, si75, sk73_3, sk73, sk75, st_ne, sk_w, mul8, mul8', mul4, mul4', nI_add, inT, nclN, ltT, ltF, leT, leF, eqT, eqF, nzF, m1F, m1T, shr, shg, bI0, bI1, bo_bI, bo_1, bo_0, eq10, eq00, frT1, frT2, frT3, fit0, fit1, fit2, fit3, true_and, and_true, ↓reduceIte, Nat.reduceAdd, Nat.reduceMul, and_self, not_false_eq_true, not_true_eq_false, Nat.zero_add, Nat.add_zero]
theorem k_pop (hh : u.1 = h + 1) (h6 : h < 64) : Wp L xs d 21 0 [some (.ref (73))] [] (mk (sk I u) J R Z) P = P (some (.int (u.2 h))) (mk (sk I (h, u.2)) J R Z) := by
  have e : nI u.1 - nI 1 = nI h := by rw [hh, nI_dif (by omega), show h + 1 - 1 = h by omega]
  have e' : (nI u.1 = nI 0) = False := by rw [hh]; exact eqF (by omega) (by omega) (by decide)
  have e3 : ∀ v : Nat → Int32, sk I (h, v) 73 3 = nI h := fun v => sk73_3
  have e5 : ∀ v : Nat → Int32, sk I (h, v) 75 = v := fun v => sk75
  simp (discharger := omega) only [↓w21_0, ↓w21_1, ↓w21_4, ↓w21_7, ↓w21_8, ↓w21_9, ↓w21_10, ↓w21_11, ↓w21_14, ↓w21_15, ↓w21_16, ↓w21_19, ↓w21_20, ↓w21_23, ↓w21_24, ↓w21_27, ↓w21_28, rc73, g73_0, g73_1, p73_1, g73_2, g73_3, p73_3, gi75, si75, sk73_3, sk73, e, e', sk_w3, e3, e5, mul8, mul8', mul4, mul4', nI_add, inT, nclN, ltT, ltF, leT, leF, eqT, eqF, nzF, m1F, m1T, shr, shg, bI0, bI1, bo_bI, bo_1, bo_0, eq10, eq00, frT1, frT2, frT3, fit0, fit1, fit2, fit3, true_and, and_true, ↓reduceIte, Nat.reduceAdd, Nat.reduceMul, and_self, not_false_eq_true, not_true_eq_false, Nat.zero_add, Nat.add_zero]
theorem k_join : Wp L xs d 19 0 [some (.int (x)), some (.int (y)), some (.int (v))] [] (mk I J R Z) P = P (some (.int (jo x y v))) (mk I J R Z) := by
  simp (discharger := omega) only [↓w19_0, ↓w19_1, ↓w19_40, ↓w19_41, ↓w19_44, ↓w19_45, ↓w19_48, ↓w19_49, ↓w19_52, ↓w19_53, ↓w19_54, ↓w19_55, ↓w19_58, ↓w19_59, ↓w19_62, ↓w19_63, ↓w19_66, ↓w19_67, ↓w19_68, ↓w19_69, ↓w19_70, ↓w19_73, ↓w19_74, ↓w19_77, ↓w19_78, ↓w19_79, ↓w19_80, ↓w19_81, ↓w19_84, ↓w19_85, ↓w19_88, ↓w19_89, ↓w19_90, ↓w19_91, ↓w19_92, ↓w19_93, ↓w19_94, ↓w19_95, ↓w19_96, ↓w19_97, ↓w19_98, ↓w19_99, ↓w19_100, ↓w19_101, mul8, mul8', mul4, mul4', nI_add, inT, nclN, ltT, ltF, leT, leF, eqT, eqF, nzF, m1F, m1T, shr, shg, bI0, bI1, bo_bI, bo_1, bo_0, eq10, eq00, frT1, frT2, frT3, fit0, fit1, fit2, fit3, true_and, and_true, ↓reduceIte, Nat.reduceAdd, Nat.reduceMul, and_self, not_false_eq_true, not_true_eq_false, Nat.zero_add, Nat.add_zero]
  unfold jo
  split
  · rfl
  · split
    · rfl
    · split
      · by_cases q : y = v <;> simp [q, bI_t, bI_f]
      · split
        · by_cases q : v ≤ y
          · rw [if_pos q, decide_eq_false (Int32.not_lt.mpr q)]; rfl
          · rw [if_neg q, decide_eq_true (Int32.not_le.mp q)]; rfl
        · split
          · by_cases q : y = nI 0
            · by_cases q2 : v = nI 0 <;> simp [q, q2, bI_t, bI_f]
            · simp [q, bI_t]
          · split
            · by_cases q : y = nI 0
              · simp [q, bI_f]
              · by_cases q2 : v = nI 0 <;> simp [q, q2, bI_t, bI_f]
            · rfl
theorem k_fact (hc : c < 8) (ho : o < 8) : Wp L xs (d+1) 18 0 [some (.ref (83)), some (.int (x)), some (.int (nI c)), some (.int (nI o))] [] (mk I J R Z) P = P (some (.int (phC I c o x))) (mk I J R Z) := by
  simp (discharger := omega) only [↓w18_0, ↓w18_1, ↓w18_28, ↓w18_29, ↓w18_32, ↓w18_33, ↓w18_34, ↓w18_35, ↓w18_38, ↓w18_39, ↓w18_40, ↓w18_43, ↓w18_44, ↓w18_45, ↓w18_48, ↓w18_49, ↓w18_50, ↓w18_51, ↓w18_54, ↓w18_55, ↓w18_56, ↓w18_59, ↓w18_60, ↓w18_61, ↓w18_64, ↓w18_65, ↓w18_66, ↓w18_67, ↓w18_70, ↓w18_71, ↓w18_72, ↓w18_73, ↓w18_76, ↓w18_77, ↓w18_78, ↓w18_81, ↓w18_82, ↓w18_83, ↓w18_84, ↓w18_87, ↓w18_88, ↓w18_89, ↓w18_92, ↓w18_93, ↓w18_96, ↓w18_97, rc83, g83_0, p83_0, g83_1, p83_1, g83_2, p83_2, g83_3, g83_4, g83_5, g83_6, g83_7, g83_8, gi85, si85, gi86, si86, gi87, si87, mul8, mul8', mul4, mul4', nI_add, inT, nclN, ltT, ltF, leT, leF, eqT, eqF, nzF, m1F, m1T, shr, shg, bI0, bI1, bo_bI, bo_1, bo_0, eq10, eq00, frT1, frT2, frT3, fit0, fit1, fit2, fit3, true_and, and_true, ↓reduceIte, Nat.reduceAdd, Nat.reduceMul, and_self, not_false_eq_true, not_true_eq_false, Nat.zero_add, Nat.add_zero]
  unfold phC
  split
  · rfl
  · split
    · rfl
    · split
      · rfl
      · by_cases q : I 87 c = I 87 o <;> simp [q, bI_t, bI_f]
/-- the codes cs are worked out to v -/
def Ev (L : Nat) (xs : Nat → Int32) (d : Nat) (I : Mi) (J : Mj) (R : Mr) (Z : Mz) (z c o : Nat) (cs : List Int32) (v : Int32) (b : Nat) : Prop := ∀ a h σ t5 t6 t7, (∀ k, k < cs.length → I 74 (a + k) = cs.getD k 0) → a + cs.length ≤ z → h + b ≤ 60 → ∃ σ' t5' t6' t7', ((∀ k, k < h → σ' k = σ k) ∧ σ' h = v) ∧ ∀ P, Wp L xs (d+2) 17 8 [some (.ref (73)), some (.ref (83)), some (.int (nI c)), some (.int (nI o)), some (.int (nI a)), t5, t6, t7] [] (mk (sk I (h, σ)) J R Z) P = Wp L xs (d+2) 17 8 [some (.ref (73)), some (.ref (83)), some (.int (nI c)), some (.int (nI o)), some (.int (nI (a + cs.length))), t5', t6', t7'] [] (mk (sk I (h + 1, σ')) J R Z) P
theorem seg_l {c1 c2 : List Int32} {a : Nat} (hs : ∀ k, k < (c1 ++ c2).length → φ (a + k) = (c1 ++ c2).getD k 0) : (∀ k, k < c1.length → φ (a + k) = c1.getD k 0) ∧ ∀ k, k < c2.length → φ (a + c1.length + k) = c2.getD k 0 := by
  refine ⟨fun k hk => ?_, fun k hk => ?_⟩
  · rw [hs k (by rw [List.length_append]; omega)]
    simp only [List.getD_eq_getElem?_getD]
    rw [List.getElem?_append_left hk]
  · rw [show a + c1.length + k = a + (c1.length + k) by omega, hs (c1.length + k) (by rw [List.length_append]; omega)]
    simp only [List.getD_eq_getElem?_getD]
    rw [List.getElem?_append_right (by omega), show c1.length + k - c1.length = k by omega]
theorem ev_one (hz : I 73 1 = nI z) (hz1 : z ≤ 1000) (hc : c < 8) (ho : o < 8) {a b : Nat} {t5 t6 t7 : Option Value} (h74 : I 74 a = x) (ha : a < z) (hb : h ≤ 60) (hx : (nI 0 ≤ x ∧ v = x) ∨ (x < nI 0 ∧ -4 ≤ x ∧ v = phC I c o x)) : ∃ t5', ∀ P, Wp L xs (d+2) 17 8 [some (.ref (73)), some (.ref (83)), some (.int (nI c)), some (.int (nI o)), some (.int (nI a)), t5, t6, t7] [] (mk (sk I (h, σ)) J R Z) P = Wp L xs (d+2) 17 8 [some (.ref (73)), some (.ref (83)), some (.int (nI c)), some (.int (nI o)), some (.int (nI (a + 1))), t5', t6, t7] [] (mk (sk I (h + 1, upd σ h v)) J R Z) P := by
  refine ⟨some (.int x), fun P => w17_8.trans ?_⟩
  have pu := fun P => k_push (L := L) (xs := xs) (d := d + 1) (P := P) (I := I) (J := J) (R := R) (Z := Z) (u := (h, σ)) (x := v) (show h < 64 by omega)
  rcases hx with ⟨h0, hv⟩ | ⟨h0, h4, hv⟩
  · have q0 : (x < nI 0) = False := eq_false (Int32.not_lt.mpr h0)
    subst hv
    simp (discharger := omega) only [↓w17_0, ↓w17_1, ↓w17_2, ↓w17_5, ↓w17_6, ↓w17_10, ↓w17_11, ↓w17_14, ↓w17_17, ↓w17_18, ↓w17_21, ↓w17_23, ↓w17_24, ↓w17_26, ↓w17_28, ↓w17_31, ↓w17_32, ↓w17_34, ↓w17_37, ↓w17_40, ↓w17_42, ↓w17_44, ↓w17_47, ↓w17_48, ↓w17_49, ↓w17_51, ↓w17_52, ↓w17_53, ↓w17_56, ↓w17_59, ↓w17_62, ↓w17_64, ↓w17_66, ↓w17_69, ↓w17_70, ↓w17_71, ↓w17_74, ↓w17_77, ↓w17_78, ↓w17_81, ↓w17_82, ↓w17_85, ↓w17_88, ↓w17_89, ↓w17_92, ↓w17_94, ↓w17_95, ↓w17_98, ↓w17_100, ↓w17_101, ↓w17_103, ↓w17_105, ↓w17_107, ↓w17_110, ↓w17_113, ↓w17_116, ↓w17_119, ↓w17_120, ↓w17_123, rc73, g73_0, g73_1, p73_1, g73_2, g73_3, p73_3, gi74, si74, sk73_1, hz, sko, h74, q0, ↓pu, ↓kc_i, ↓kc_l, ↓kc_r, ↓kc_n, mul8, mul8', mul4, mul4', nI_add, inT, nclN, ltT, ltF, leT, leF, eqT, eqF, nzF, m1F, m1T, shr, shg, bI0, bI1, bo_bI, bo_1, bo_0, eq10, eq00, frT1, frT2, frT3, fit0, fit1, fit2, fit3, true_and, and_true, ↓reduceIte, Nat.reduceAdd, Nat.reduceMul, and_self, not_false_eq_true, not_true_eq_false, Nat.zero_add, Nat.add_zero]
  · have q0 : (x < nI 0) = True := eq_true h0
    have q4 : (x < -4) = False := eq_false (Int32.not_lt.mpr h4)
    have fa := fun P => k_fact (L := L) (xs := xs) (d := d) (P := P) (I := sk I (h, σ)) (J := J) (R := R) (Z := Z) (x := x) hc ho
    have e : phC (sk I (h, σ)) c o x = v := by rw [hv]; unfold phC; rw [sko (by decide) (by decide), sko (by decide) (by decide), sko (by decide) (by decide)]
    rw [e] at fa
    simp (discharger := omega) only [↓w17_0, ↓w17_1, ↓w17_2, ↓w17_5, ↓w17_6, ↓w17_10, ↓w17_11, ↓w17_14, ↓w17_17, ↓w17_18, ↓w17_21, ↓w17_23, ↓w17_24, ↓w17_26, ↓w17_28, ↓w17_31, ↓w17_32, ↓w17_34, ↓w17_37, ↓w17_40, ↓w17_42, ↓w17_44, ↓w17_47, ↓w17_48, ↓w17_49, ↓w17_51, ↓w17_52, ↓w17_53, ↓w17_56, ↓w17_59, ↓w17_62, ↓w17_64, ↓w17_66, ↓w17_69, ↓w17_70, ↓w17_71, ↓w17_74, ↓w17_77, ↓w17_78, ↓w17_81, ↓w17_82, ↓w17_85, ↓w17_88, ↓w17_89, ↓w17_92, ↓w17_94, ↓w17_95, ↓w17_98, ↓w17_100, ↓w17_101, ↓w17_103, ↓w17_105, ↓w17_107, ↓w17_110, ↓w17_113, ↓w17_116, ↓w17_119, ↓w17_120, ↓w17_123, rc73, g73_0, g73_1, p73_1, g73_2, g73_3, p73_3, gi74, si74, sk73_1, hz, sko, h74, q0, q4, ↓fa, ↓pu, ↓kc_i, ↓kc_l, ↓kc_r, ↓kc_n, mul8, mul8', mul4, mul4', nI_add, inT, nclN, ltT, ltF, leT, leF, eqT, eqF, nzF, m1F, m1T, shr, shg, bI0, bI1, bo_bI, bo_1, bo_0, eq10, eq00, frT1, frT2, frT3, fit0, fit1, fit2, fit3, true_and, and_true, ↓reduceIte, Nat.reduceAdd, Nat.reduceMul, and_self, not_false_eq_true, not_true_eq_false, Nat.zero_add, Nat.add_zero]
theorem ev_not (hz : I 73 1 = nI z) (hz1 : z ≤ 1000) {b : Nat} (h1 : Ev L xs d I J R Z z c o cs v b) : Ev L xs d I J R Z z c o (cs ++ [-5]) (bI (decide (v = nI 0))) b := by
  intro a h σ t5 t6 t7 hs ha hb
  obtain ⟨s1, s2⟩ := seg_l hs
  rw [List.length_append] at ha
  simp only [List.length_cons, List.length_nil] at ha
  obtain ⟨σ1, u5, u6, u7, ⟨e1, e2⟩, e3⟩ := h1 a h σ t5 t6 t7 s1 (by omega) hb
  refine ⟨upd σ1 h (bI (decide (v = nI 0))), some (.int (-5)), u6, u7, ⟨fun k hk => by rw [upd_ne (by omega), e1 k hk], upd_eq⟩, fun P => ?_⟩
  rw [e3, List.length_append]
  refine w17_8.trans ?_
  have h74 : I 74 (a + cs.length) = -5 := by have := s2 0 (by simp); simpa using this
  have po := fun P => k_pop (L := L) (xs := xs) (d := d + 1) (P := P) (I := I) (J := J) (R := R) (Z := Z) (u := (h + 1, σ1)) (h := h) rfl (by omega)
  have pu := fun x P => k_push (L := L) (xs := xs) (d := d + 1) (P := P) (I := I) (J := J) (R := R) (Z := Z) (u := (h, σ1)) (x := x) (show h < 64 by omega)
  have q0 : ((-5 : Int32) < nI 0) = True := by decide
  have q4 : ((-5 : Int32) < -4) = True := by decide
  have q5 : ((-5 : Int32) = -5) = True := eq_true rfl
  dsimp only at po
  rw [e2] at po
  simp only [List.length_cons, List.length_nil]
  by_cases hv : v = nI 0
  · rw [decide_eq_true hv, bI_t]
    subst hv
    simp (discharger := omega) only [↓w17_0, ↓w17_1, ↓w17_2, ↓w17_5, ↓w17_6, ↓w17_10, ↓w17_11, ↓w17_14, ↓w17_17, ↓w17_18, ↓w17_21, ↓w17_23, ↓w17_24, ↓w17_26, ↓w17_28, ↓w17_31, ↓w17_32, ↓w17_34, ↓w17_37, ↓w17_40, ↓w17_42, ↓w17_44, ↓w17_47, ↓w17_48, ↓w17_49, ↓w17_51, ↓w17_52, ↓w17_53, ↓w17_56, ↓w17_59, ↓w17_62, ↓w17_64, ↓w17_66, ↓w17_69, ↓w17_70, ↓w17_71, ↓w17_74, ↓w17_77, ↓w17_78, ↓w17_81, ↓w17_82, ↓w17_85, ↓w17_88, ↓w17_89, ↓w17_92, ↓w17_94, ↓w17_95, ↓w17_98, ↓w17_100, ↓w17_101, ↓w17_103, ↓w17_105, ↓w17_107, ↓w17_110, ↓w17_113, ↓w17_116, ↓w17_119, ↓w17_120, ↓w17_123, rc73, g73_0, g73_1, p73_1, g73_2, g73_3, p73_3, gi74, si74, sk73_1, hz, sko, h74, q0, q4, q5, ↓po, ↓pu, ↓kc_i, ↓kc_l, ↓kc_r, ↓kc_n, mul8, mul8', mul4, mul4', nI_add, inT, nclN, ltT, ltF, leT, leF, eqT, eqF, nzF, m1F, m1T, shr, shg, bI0, bI1, bo_bI, bo_1, bo_0, eq10, eq00, frT1, frT2, frT3, fit0, fit1, fit2, fit3, true_and, and_true, ↓reduceIte, Nat.reduceAdd, Nat.reduceMul, and_self, not_false_eq_true, not_true_eq_false, Nat.zero_add, Nat.add_zero]
    exact Eq.refl _
  · rw [decide_eq_false hv, bI_f]
    simp (discharger := omega) only [↓w17_0, ↓w17_1, ↓w17_2, ↓w17_5, ↓w17_6, ↓w17_10, ↓w17_11, ↓w17_14, ↓w17_17, ↓w17_18, ↓w17_21, ↓w17_23, ↓w17_24, ↓w17_26, ↓w17_28, ↓w17_31, ↓w17_32, ↓w17_34, ↓w17_37, ↓w17_40, ↓w17_42, ↓w17_44, ↓w17_47, ↓w17_48, ↓w17_49, ↓w17_51, ↓w17_52, ↓w17_53, ↓w17_56, ↓w17_59, ↓w17_62, ↓w17_64, ↓w17_66, ↓w17_69, ↓w17_70, ↓w17_71, ↓w17_74, ↓w17_77, ↓w17_78, ↓w17_81, ↓w17_82, ↓w17_85, ↓w17_88, ↓w17_89, ↓w17_92, ↓w17_94, ↓w17_95, ↓w17_98, ↓w17_100, ↓w17_101, ↓w17_103, ↓w17_105, ↓w17_107, ↓w17_110, ↓w17_113, ↓w17_116, ↓w17_119, ↓w17_120, ↓w17_123, rc73, g73_0, g73_1, p73_1, g73_2, g73_3, p73_3, gi74, si74, sk73_1, hz, sko, h74, q0, q4, q5, ↓po, hv, ↓pu, ↓kc_i, ↓kc_l, ↓kc_r, ↓kc_n, mul8, mul8', mul4, mul4', nI_add, inT, nclN, ltT, ltF, leT, leF, eqT, eqF, nzF, m1F, m1T, shr, shg, bI0, bI1, bo_bI, bo_1, bo_0, eq10, eq00, frT1, frT2, frT3, fit0, fit1, fit2, fit3, true_and, and_true, ↓reduceIte, Nat.reduceAdd, Nat.reduceMul, and_self, not_false_eq_true, not_true_eq_false, Nat.zero_add, Nat.add_zero]
    exact Eq.refl _
theorem ev_join (hz : I 73 1 = nI z) (hz1 : z ≤ 1000) {b : Nat} {c1 c2 : List Int32} {v1 v2 : Int32} (hx : x < nI 0 ∧ x < -4 ∧ x ≠ -5) (h1 : Ev L xs d I J R Z z c o c1 v1 (b + 1)) (h2 : Ev L xs d I J R Z z c o c2 v2 b) : Ev L xs d I J R Z z c o (c1 ++ c2 ++ [x]) (jo x v1 v2) (b + 1) := by
  intro a h σ t5 t6 t7 hs ha hb
  obtain ⟨s1, s3⟩ := seg_l hs
  obtain ⟨s1, s2⟩ := seg_l s1
  rw [List.length_append, List.length_append] at ha
  simp only [List.length_cons, List.length_nil] at ha
  obtain ⟨σ1, u5, u6, u7, ⟨e1, e2⟩, e3⟩ := h1 a h σ t5 t6 t7 s1 (by omega) hb
  obtain ⟨σ2, y5, y6, y7, ⟨f1, f2⟩, f3⟩ := h2 (a + c1.length) (h + 1) σ1 u5 u6 u7 s2 (by omega) (by omega)
  refine ⟨upd σ2 h (jo x v1 v2), some (.int x), some (.int v2), some (.int v1), ⟨fun k hk => by rw [upd_ne (by omega), f1 k (by omega), e1 k hk], upd_eq⟩, fun P => ?_⟩
  rw [e3, f3, List.length_append, List.length_append]
  refine w17_8.trans ?_
  rw [List.length_append] at s3
  have h74 : I 74 (a + c1.length + c2.length) = x := by have := s3 0 (by simp); simpa [Nat.add_assoc] using this
  have po1 := fun P => k_pop (L := L) (xs := xs) (d := d + 1) (P := P) (I := I) (J := J) (R := R) (Z := Z) (u := (h + 1 + 1, σ2)) (h := h + 1) rfl (by omega)
  have po2 := fun P => k_pop (L := L) (xs := xs) (d := d + 1) (P := P) (I := I) (J := J) (R := R) (Z := Z) (u := (h + 1, σ2)) (h := h) rfl (by omega)
  have jn := fun P => k_join (L := L) (xs := xs) (d := d + 1) (P := P) (I := sk I (h, σ2)) (J := J) (R := R) (Z := Z) (x := x) (y := v1) (v := v2)
  have pu := fun P => k_push (L := L) (xs := xs) (d := d + 1) (P := P) (I := I) (J := J) (R := R) (Z := Z) (u := (h, σ2)) (x := jo x v1 v2) (show h < 64 by omega)
  have q0 : (x < nI 0) = True := eq_true hx.1
  have q4 : (x < -4) = True := eq_true hx.2.1
  have q5 : (x = -5) = False := eq_false hx.2.2
  dsimp only at po1 po2
  rw [f2] at po1
  rw [f1 h (by omega), e2] at po2
  simp only [List.length_cons, List.length_nil]
  rw [show a + (c1.length + c2.length + (0 + 1)) = a + c1.length + c2.length + 1 by omega]
  simp (discharger := omega) only [↓w17_0, ↓w17_1, ↓w17_2, ↓w17_5, ↓w17_6, ↓w17_10, ↓w17_11, ↓w17_14, ↓w17_17, ↓w17_18, ↓w17_21, ↓w17_23, ↓w17_24, ↓w17_26, ↓w17_28, ↓w17_31, ↓w17_32, ↓w17_34, ↓w17_37, ↓w17_40, ↓w17_42, ↓w17_44, ↓w17_47, ↓w17_48, ↓w17_49, ↓w17_51, ↓w17_52, ↓w17_53, ↓w17_56, ↓w17_59, ↓w17_62, ↓w17_64, ↓w17_66, ↓w17_69, ↓w17_70, ↓w17_71, ↓w17_74, ↓w17_77, ↓w17_78, ↓w17_81, ↓w17_82, ↓w17_85, ↓w17_88, ↓w17_89, ↓w17_92, ↓w17_94, ↓w17_95, ↓w17_98, ↓w17_100, ↓w17_101, ↓w17_103, ↓w17_105, ↓w17_107, ↓w17_110, ↓w17_113, ↓w17_116, ↓w17_119, ↓w17_120, ↓w17_123, rc73, g73_0, g73_1, p73_1, g73_2, g73_3, p73_3, gi74, si74, sk73_1, hz, sko, h74, q0, q4, q5, ↓po1, ↓po2, ↓jn, ↓pu, ↓kc_i, ↓kc_l, ↓kc_r, ↓kc_n, mul8, mul8', mul4, mul4', nI_add, inT, nclN, ltT, ltF, leT, leF, eqT, eqF, nzF, m1F, m1T, shr, shg, bI0, bI1, bo_bI, bo_1, bo_0, eq10, eq00, frT1, frT2, frT3, fit0, fit1, fit2, fit3, true_and, and_true, ↓reduceIte, Nat.reduceAdd, Nat.reduceMul, and_self, not_false_eq_true, not_true_eq_false, Nat.zero_add, Nat.add_zero]
theorem lpE_0 : ∀ k r, (lpE g n lv Q k r).2.1 = 0 → r.2.1 = 0 := by
  intro k
  induction k with
  | zero => intro r h; exact h
  | succ k ih =>
    intro r h
    unfold lpE at h
    split at h
    · exact h
    · rename_i q
      by_cases hr : r.2.1 = 0
      · exact hr
      · exact absurd (Or.inr hr) q
theorem jn_lt (h : jn g n lv i ≠ nI 0) : jn g n lv i < nI 0 ∧ jn g n lv i < -4 ∧ jn g n lv i ≠ -5 := by
  have key : ∀ x : Int32, (x = -6 ∨ x = -7 ∨ x = -8 ∨ x = -9 ∨ x = -10 ∨ x = -11 ∨ x = -12) → x < nI 0 ∧ x < -4 ∧ x ≠ -5 := by
    intro x hx; rcases hx with rfl | rfl | rfl | rfl | rfl | rfl | rfl <;> decide
  apply key
  unfold jn at h ⊢
  revert h
  split
  · split
    · simp
    · split <;> simp
  · split
    · split
      · simp
      · split <;> simp
    · split
      · split
        · simp
        · split <;> simp
      · split <;> simp
theorem fc_c (h : isFc g n i = true) : wNu (wd g n i) < nI 0 ∧ -4 ≤ wNu (wd g n i) := by
  have h1 := of_decide_eq_true h
  have h2 := wd_lt (g := g) (n := n) (i := i)
  have key : ∀ w, w < 30 → wSo w = nI 3 → wNu w < nI 0 ∧ -4 ≤ wNu w := by decide +kernel
  exact key _ h2 h1
theorem ev_pE (hz : I 73 1 = nI z) (hz1 : z ≤ 1000) (hc : c < 8) (ho : o < 8) : ∀ F lv dep i, dep ≤ 5 → lv ≤ 4 → (pE g n F lv dep i).2.1 = 0 → Ev L xs d I J R Z z c o (pE g n F lv dep i).2.2.1 ((pE g n F lv dep i).2.2.2 (phC I c o)) (4 * (5 - dep) + (4 - lv)) := by
  intro F
  induction F with
  | zero => intro lv dep i _ _ h; exact absurd h (by show 1 + 16 * bg g n i ≠ 0; omega)
  | succ F ih =>
    intro lv dep i hdep hlv h
    rw [pE] at h ⊢
    by_cases h4 : 4 ≤ lv
    · have : lv = 4 := by omega
      subst this
      rw [if_pos h4] at h ⊢
      unfold prtE at h ⊢
      split at h
      · exact absurd h (by show 1 + 16 * bg g n i ≠ 0; omega)
      · rename_i q1
        rw [if_neg q1]
        split at h
        · exact absurd h (by show 5 + 16 * bg g n i ≠ 0; omega)
        · rename_i q2
          rw [if_neg q2]
          split at h
          · rename_i q3
            rw [if_pos q3]
            intro a h σ t5 t6 t7 hs ha hb
            have hv := vl_lt q3
            simp only [List.length_cons, List.length_nil] at ha hs
            obtain ⟨t5', e⟩ := ev_one (L := L) (xs := xs) (d := d) (J := J) (R := R) (Z := Z) (σ := σ) (h := h) (b := 0) (t5 := t5) (t6 := t6) (t7 := t7) (v := nI (vl g n i)) hz hz1 hc ho (show I 74 a = nI (vl g n i) by simpa using hs 0 (by omega)) (by omega) (by omega) (Or.inl ⟨nI_pos' (by omega), rfl⟩)
            exact ⟨_, t5', t6, t7, ⟨fun k hk => upd_ne (by omega), upd_eq⟩, e⟩
          · rename_i q3
            rw [if_neg q3]
            split at h
            · rename_i q4
              rw [if_pos q4]
              intro a h σ t5 t6 t7 hs ha hb
              simp only [List.length_cons, List.length_nil] at ha hs
              obtain ⟨t5', e⟩ := ev_one (L := L) (xs := xs) (d := d) (J := J) (R := R) (Z := Z) (σ := σ) (h := h) (b := 0) (t5 := t5) (t6 := t6) (t7 := t7) (v := phC I c o (wNu (wd g n i))) hz hz1 hc ho (show I 74 a = wNu (wd g n i) by simpa using hs 0 (by omega)) (by omega) (by omega) (Or.inr ⟨(fc_c q4).1, (fc_c q4).2, rfl⟩)
              exact ⟨_, t5', t6, t7, ⟨fun k hk => upd_ne (by omega), upd_eq⟩, e⟩
            · rename_i q4
              rw [if_neg q4]
              split at h
              · rename_i q5
                rw [if_pos q5]
                have := ev_not hz hz1 (ih 4 (dep + 1) (i + 1) (by omega) (by decide) h)
                intro a h σ t5 t6 t7 hs ha hb
                exact this a h σ t5 t6 t7 hs ha (by omega)
              · rename_i q5
                rw [if_neg q5]
                have h' := (tkS_i h).1
                have := ih 0 (dep + 1) (i + 1) (by omega) (by decide) h'
                intro a h σ t5 t6 t7 hs ha hb
                exact this a h σ t5 t6 t7 hs ha (by omega)
    · rw [if_neg h4] at h ⊢
      have key : ∀ k r, (lpE g n lv (pE g n F (lv + 1) dep) k r).2.1 = 0 → Ev L xs d I J R Z z c o r.2.2.1 (r.2.2.2 (phC I c o)) (4 * (5 - dep) + (4 - lv)) → Ev L xs d I J R Z z c o (lpE g n lv (pE g n F (lv + 1) dep) k r).2.2.1 ((lpE g n lv (pE g n F (lv + 1) dep) k r).2.2.2 (phC I c o)) (4 * (5 - dep) + (4 - lv)) := by
        intro k
        induction k with
        | zero => intro r _ h2; exact h2
        | succ k ihk =>
          intro r h1 h2
          unfold lpE at h1 ⊢
          split at h1
          · rename_i q; rw [if_pos q]; exact h2
          · rename_i q
            rw [if_neg q]
            have hq := lpE_0 _ _ h1
            refine ihk _ h1 ?_
            have a1 := ih (lv + 1) dep (r.1 + 1) hdep (by omega) hq
            have ej : 4 * (5 - dep) + (4 - lv) = 4 * (5 - dep) + (4 - (lv + 1)) + 1 := by omega
            rw [ej] at h2 ⊢
            exact ev_join hz hz1 (jn_lt (fun z => q (Or.inl z))) h2 a1
      have h0 := lpE_0 _ _ h
      have a0 := ih (lv + 1) dep i hdep (by omega) h0
      refine key _ _ h ?_
      intro a h σ t5 t6 t7 hs ha hb
      exact a0 a h σ t5 t6 t7 hs ha (by omega)
end G9
