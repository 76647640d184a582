/-! the class's group() whole -/
def gcI (I : Mi) : Mi := st (st (st (st (st (st I 76 (upd (upd (upd (I 76) 0 (I 83 0)) 1 (I 83 1)) 2 (I 83 2))) 77 (va_cpy (I 84) (I 77) 0 0 8)) 78 (va_cpy (I 85) (I 78) 0 0 8)) 79 (va_cpy (I 86) (I 79) 0 0 8)) 80 (va_cpy (I 87) (I 80) 0 0 8)) 81 (va_cpy (I 88) (I 81) 0 0 8)
def grS (a : Nat) : Prop := (76 ≤ a ∧ a ≤ 81) ∨ a = 90 ∨ a = 98 ∨ (102 ≤ a ∧ a < 114) ∨ a = 129 ∨ a = 336 ∨ a = 357 ∨ a = 378 ∨ a = 399
section H3
variable {L : Nat} {xs : Nat → Int32} {d : Nat} {P : Option Value → Hp → Prop} {I I' I2 : Mi} {J J' J2 : Mj} {R R' : Mr} {Z : Mz} {k n i p w b m x T lv dep F M N K le gg c o lo hi K1 : Nat} {g : Nat → Nat} {s : Rs} {φ : Nat → Int32} {D : Dg}
theorem k_gcopy : Wp L xs (d+1) 2 0 [some (.ref (76)), some (.ref (83))] [] (mk I J R Z) P = P none (mk (gcI I) (st J 82 (va_cpy (J 89) (J 82) 0 0 8)) R Z) := by
  have cp := fun (a b : Nat) (I : Mi) (J : Mj) (K : Hp → Prop) (ha : 64 ≤ a) (h : SHT[a - 64]? = some (0, 8, [])) (hb : 64 ≤ b) (h' : SHT[b - 64]? = some (0, 8, [])) => cpI (I := I) (J := J) (R := R) (Z := Z) (a := a) (b := b) (n := 8) (K := K) ha h hb h' (Nat.le_refl _) (Nat.le_refl _) (by decide)
  have c1 := fun I J K => cp 84 77 I J K (by decide) rfl (by decide) rfl
  have c2 := fun I J K => cp 85 78 I J K (by decide) rfl (by decide) rfl
  have c3 := fun I J K => cp 86 79 I J K (by decide) rfl (by decide) rfl
  have c4 := fun I J K => cp 87 80 I J K (by decide) rfl (by decide) rfl
  have c5 := fun I J K => cp 88 81 I J K (by decide) rfl (by decide) rfl
  have c6 := fun (I : Mi) (J : Mj) (K : Hp → Prop) => cpJ (I := I) (J := J) (R := R) (Z := Z) (a := 89) (b := 82) (n := 8) (K := K) (by decide) rfl (by decide) rfl (Nat.le_refl _) (Nat.le_refl _) (by decide)
  unfold gcI
  simp (discharger := omega) only [↓w2_0, ↓w2_1, ↓w2_2, ↓w2_5, ↓w2_8, ↓w2_9, ↓w2_10, ↓w2_13, ↓w2_16, ↓w2_17, ↓w2_18, ↓w2_21, ↓w2_24, ↓w2_25, ↓w2_28, ↓w2_29, ↓w2_30, ↓w2_33, ↓w2_34, ↓w2_36, ↓w2_39, ↓w2_40, ↓w2_43, ↓w2_44, ↓w2_45, ↓w2_48, ↓w2_49, ↓w2_51, ↓w2_54, ↓w2_55, ↓w2_58, ↓w2_59, ↓w2_60, ↓w2_63, ↓w2_64, ↓w2_66, ↓w2_69, ↓w2_70, ↓w2_73, ↓w2_74, ↓w2_75, ↓w2_78, ↓w2_79, ↓w2_81, ↓w2_84, ↓w2_85, ↓w2_88, ↓w2_89, ↓w2_90, ↓w2_93, ↓w2_94, ↓w2_96, ↓w2_99, ↓w2_100, ↓w2_103, ↓w2_104, ↓w2_105, ↓w2_108, ↓w2_109, ↓w2_111, ↓w2_114, rc76, g76_0, p76_0, g76_1, p76_1, g76_2, p76_2, g76_3, g76_4, g76_5, g76_6, g76_7, g76_8, rc83, g83_0, p83_0, g83_1, p83_1, g83_2, p83_2, g83_3, g83_4, g83_5, g83_6, g83_7, g83_8, c1, c2, c3, c4, c5, c6, st_ne, st_eq, st_st, mul8, mul8', mul4, mul4', nI_add, inT, nclN, ltT, ltF, leT, leF, eqT, eqF, nzF, m1F, m1T, shr, shg, bI0, bI1, bo_bI, bo_1, bo_0, eq10, eq00, frT1, frT2, frT3, fit0, fit1, fit2, fit3, true_and, and_true, ↓reduceIte, Nat.reduceAdd, Nat.reduceMul, and_self, not_false_eq_true, not_true_eq_false, Nat.zero_add, Nat.add_zero]
theorem gc76 (hk : k < 3) : gcI I 76 k = I 83 k := by
  unfold gcI
  rw [st_ne (by decide), st_ne (by decide), st_ne (by decide), st_ne (by decide), st_ne (by decide), st_eq]
  have hk' : k = 0 ∨ k = 1 ∨ k = 2 := by omega
  rcases hk' with rfl | rfl | rfl
  · rw [upd_ne (by decide), upd_ne (by decide), upd_eq]
  · rw [upd_ne (by decide), upd_eq]
  · rw [upd_eq]
theorem gc_a {j : Nat} (hj : 1 ≤ j) (hj5 : j ≤ 5) : gcI I (76 + j) = va_cpy (I (83 + j)) (I (76 + j)) 0 0 8 := by
  have h : j = 1 ∨ j = 2 ∨ j = 3 ∨ j = 4 ∨ j = 5 := by omega
  unfold gcI
  rcases h with rfl | rfl | rfl | rfl | rfl
  · rw [st_ne (by decide), st_ne (by decide), st_ne (by decide), st_ne (by decide), st_eq]
  · rw [st_ne (by decide), st_ne (by decide), st_ne (by decide), st_eq]
  · rw [st_ne (by decide), st_ne (by decide), st_eq]
  · rw [st_ne (by decide), st_eq]
  · rw [st_eq]
theorem gco {a : Nat} (h : a < 76 ∨ 81 < a) : gcI I a = I a := by
  unfold gcI
  rw [st_ne (by omega), st_ne (by omega), st_ne (by omega), st_ne (by omega), st_ne (by omega), st_ne (by omega)]
def mk4 (I : Mi) (m : Nat) : Mi := lp (fun j I => st I (336 + 21 * j) (upd (I (336 + 21 * j)) 0 (nI 0))) m I
theorem mk4_o {a : Nat} : ∀ m, (∀ j, j < m → a ≠ 336 + 21 * j) → mk4 I m a = I a
  | 0, _ => rfl
  | m + 1, h => by
    show st (mk4 I m) (336 + 21 * m) _ a = I a
    rw [st_ne (h m (by omega)), mk4_o m (fun j hj => h j (by omega))]
theorem mk4_j {j : Nat} : ∀ m, j < m → mk4 I m (336 + 21 * j) 0 = nI 0
  | 0, h => by omega
  | m + 1, h => by
    show st (mk4 I m) (336 + 21 * m) _ (336 + 21 * j) 0 = nI 0
    by_cases e : j = m
    · subst e; rw [st_eq, upd_eq]
    · rw [st_ne (by omega), mk4_j m (by omega)]
theorem k_group (hl : I 65 1 = nI n) (hn : n ≤ 1000) (hs : sgT I g n) (hF : 29 < F) (hK : K1 = 1000) (h80 : ∀ k, 8 ≤ k → I 80 k = nI 0) (hcS : cS (vw I 102)) : ∃ I' J' R', (I' 65 1 = nI 0 ∧ (gR g n F K1 (0, 0, 0, fun _ => 0, 0) 0).2.2 < 100000 ∧ ((gR g n F K1 (0, 0, 0, fun _ => 0, 0) 0).2.2 ≠ 0 → (∀ a, ¬ rdS a → I' a = I a) ∧ ∀ a, a ≠ 70 → a ≠ 89 → J' a = J a) ∧ ((gR g n F K1 (0, 0, 0, fun _ => 0, 0) 0).2.2 = 0 → GDt I' J' g n F (gR g n F K1 (0, 0, 0, fun _ => 0, 0) 0).1 76 ∧ (∀ j, j < 12 → I' (102 + j) = frs (gR g n F K1 (0, 0, 0, fun _ => 0, 0) 0).1.1 (I' 80) j) ∧ (I' 90 0 = nI 0 ∧ I' 98 0 = nI 0 ∧ I' 129 = upd (I 129) 2 (nI 0)) ∧ (∀ j, j < 4 → I' (336 + 21 * j) 0 = nI 0) ∧ (∀ k, 8 ≤ k → I' 80 k = nI 0) ∧ (∀ a, ¬ rdS a → ¬ grS a → I' a = I a) ∧ ∀ a, a ≠ 70 → a ≠ 82 → a ≠ 89 → J' a = J a)) ∧ ∀ P, Wp L xs (d+2*F+9) 116 0 [some (.ref (64)), none, none] [] (mk I J R Z) P = P (some (.int (nI (gR g n F K1 (0, 0, 0, fun _ => 0, 0) 0).2.2))) (mk I' J' R' Z) := by
  obtain ⟨I1, J1, R1, ⟨c1, c2, c3⟩, c4⟩ := k_readGroup (L := L) (xs := xs) (d := d) (J := J) (R := R) (Z := Z) hl hn hs hF hK
  have gw := gR_wd (g := g) (n := n) (F := F) K1 (0, 0, 0, fun _ => 0, 0) 0 ⟨Or.inl rfl, by show 0 ≤ 4; omega, by show 0 ≤ 8; omega, fun c hc => absurd hc (Nat.not_lt_zero c), fun z => absurd rfl z⟩
  generalize gR g n F K1 (0, 0, 0, fun _ => 0, 0) 0 = r at *
  generalize hI2 : st I1 65 (upd (I1 65) 1 (nI 0)) = I2
  have e65 : I2 65 1 = nI 0 := by rw [← hI2, st_eq, upd_eq]
  have eo : ∀ a, a ≠ 65 → I2 a = I1 a := fun a h => by rw [← hI2, st_ne h]
  by_cases hf : r.2.2 = 0
  · have hw := gw hf
    have hd := c3 hf
    generalize hI3 : gcI I2 = I3
    have h3o : ∀ a, (a < 76 ∨ 81 < a) → I3 a = I2 a := fun a h => by rw [← hI3, gco h]
    have i76 : ∀ k, k < 3 → I3 76 k = I1 83 k := fun k hk => by rw [← hI3, gc76 hk, eo 83 (by decide)]
    have ia : ∀ j c, 1 ≤ j → j ≤ 5 → c < 8 → I3 (76 + j) c = I1 (83 + j) c := fun j c h1 h2 hc => by
      rw [← hI3, gc_a h1 h2]
      unfold va_cpy
      rw [if_pos (by omega), eo (83 + j) (by omega)]
      congr 1; omega
    have ib : ∀ k, 8 ≤ k → I3 80 k = nI 0 := fun k hk => by
      rw [← hI3, gc_a (j := 4) (by decide) (by decide)]
      unfold va_cpy
      rw [if_neg (by omega), eo 80 (by decide), c1.1 80 (by unfold rdS; omega), h80 k hk]
    have hN : I3 76 0 = nI r.1.1 := by rw [i76 0 (by decide)]; exact hd.1.1
    have hN5 : r.1.1 ≤ 5 := by have := hw.1; omega
    have hcs3 : cS (vw I3 102) := fun j k hj hk => by
      show I3 (102 + j) k = nI 0
      rw [h3o (102 + j) (by omega), eo (102 + j) (by omega), c1.1 (102 + j) (by unfold rdS; omega)]
      exact hcS j k hj hk
    have gcp := fun P => k_gcopy (L := L) (xs := xs) (d := d + 2 * F + 7) (P := P) (I := I2) (J := J1) (R := R1) (Z := Z)
    rw [hI3] at gcp
    have sta := fun P => k_startAnew (L := L) (xs := xs) (d := d + 2 * F + 7) (P := P) (I := I3) (J := st J1 82 (va_cpy (J1 89) (J1 82) 0 0 8)) (R := R1) (Z := Z) (t := 102) isS_102 hN hN5 ib hcs3
    generalize hI4 : putS I3 102 (frs r.1.1 (I3 80)) = I4 at *
    have h4j : ∀ j, j < 12 → I4 (102 + j) = frs r.1.1 (I3 80) j := fun j hj => by rw [← hI4, ps_j hj]
    have h4o : ∀ a, (a < 102 ∨ 114 ≤ a) → I4 a = I3 a := fun a h => by rw [← hI4, ps_ne (by omega)]
    generalize hJ2 : st J1 82 (va_cpy (J1 89) (J1 82) 0 0 8) = J2 at *
    have j82 : ∀ c, c < 8 → J2 82 c = J1 89 c := fun c hc => by
      rw [← hJ2, st_eq]; unfold va_cpy; rw [if_pos (by omega)]; congr 1; omega
    have jo : ∀ a, a ≠ 82 → J2 a = J1 a := fun a h => by rw [← hJ2, st_ne h]
    generalize hI5 : st (st (st I4 90 (upd (I4 90) 0 (nI 0))) 98 (upd (I4 98) 0 (nI 0))) 129 (upd (I4 129) 2 (nI 0)) = I5
    have h5o : ∀ a, a ≠ 90 → a ≠ 98 → a ≠ 129 → I5 a = I4 a := fun a h1 h2 h3 => by rw [← hI5, st_ne h3, st_ne h2, st_ne h1]
    have h90 : I5 90 0 = nI 0 := by rw [← hI5, st_ne (by decide), st_ne (by decide), st_eq, upd_eq]
    have h98 : I5 98 0 = nI 0 := by rw [← hI5, st_ne (by decide), st_eq, upd_eq]
    have h129 : I5 129 = upd (I 129) 2 (nI 0) := by rw [← hI5, st_eq, h4o 129 (by decide), h3o 129 (by decide), eo 129 (by decide), c1.1 129 (by unfold rdS; omega)]
    have loop : ∀ P m, m ≤ 4 → Wp L xs (d+2*F+9) 116 73 [some (.ref (64)), some (.int (nI 0)), some (.int (nI 0))] [] (mk I5 J2 R1 Z) P = Wp L xs (d+2*F+9) 116 73 [some (.ref (64)), some (.int (nI 0)), some (.int (nI m))] [] (mk (mk4 I5 m) J2 R1 Z) P := by
      intro P m
      induction m with
      | zero => intro _; exact Eq.refl _
      | succ m ih =>
        intro hm
        rw [ih (by omega)]
        refine w116_73.trans ?_
        simp (discharger := omega) only [↓w116_0, ↓w116_1, ↓w116_4, ↓w116_5, ↓w116_8, ↓w116_11, ↓w116_12, ↓w116_13, ↓w116_16, ↓w116_17, ↓w116_20, ↓w116_21, ↓w116_24, ↓w116_25, ↓w116_26, ↓w116_27, ↓w116_30, ↓w116_31, ↓w116_34, ↓w116_37, ↓w116_38, ↓w116_41, ↓w116_42, ↓w116_45, ↓w116_48, ↓w116_49, ↓w116_52, ↓w116_53, ↓w116_56, ↓w116_57, ↓w116_60, ↓w116_61, ↓w116_64, ↓w116_65, ↓w116_68, ↓w116_71, ↓w116_72, ↓w116_74, ↓w116_75, ↓w116_78, ↓w116_79, ↓w116_82, ↓w116_83, ↓w116_84, ↓w116_85, ↓w116_88, ↓w116_91, ↓w116_94, ↓w116_95, rc64, g64_0, g64_1, g64_2, g64_3, g64_4, g64_5, g64_6, g64_7, g64_8, g64_9, g64_10, g64_11, g64_12, gr335 (show m < 4 by omega), pK0 (show m < 4 by omega), ↓kc_i, ↓kc_l, ↓kc_r, ↓kc_n, mul8, mul8', mul4, mul4', nI_add, inT, nclN, ltT, ltF, leT, leF, eqT, eqF, nzF, m1F, m1T, shr, shg, bI0, bI1, bo_bI, bo_1, bo_0, eq10, eq00, frT1, frT2, frT3, fit0, fit1, fit2, fit3, true_and, and_true, ↓reduceIte, Nat.reduceAdd, Nat.reduceMul, and_self, not_false_eq_true, not_true_eq_false, Nat.zero_add, Nat.add_zero]
        exact Eq.refl _
    have hfin : ∀ a, a ≠ 336 → a ≠ 357 → a ≠ 378 → a ≠ 399 → mk4 I5 4 a = I5 a := fun a h1 h2 h3 h4 => mk4_o 4 (fun j hj => by omega)
    have rdo' : ∀ a, ¬ rdS a → ¬ grS a → mk4 I5 4 a = I a := fun a h1 h2 => by
      unfold grS at h2
      rw [hfin a (by omega) (by omega) (by omega) (by omega), h5o a (by omega) (by omega) (by omega), h4o a (by omega), h3o a (by omega), eo a (by unfold rdS at h1; omega), c1.1 a h1]
    have hb : ∀ a, a < 336 → a ≠ 90 → a ≠ 98 → a ≠ 129 → (a < 102 ∨ 114 ≤ a) → mk4 I5 4 a = I3 a := fun a h0 h1 h2 h3 h4 => by
      rw [hfin a (by omega) (by omega) (by omega) (by omega), h5o a h1 h2 h3, h4o a h4]
    refine ⟨mk4 I5 4, J2, R1, ⟨?_, c2, fun z => absurd hf z, fun _ => ⟨⟨⟨?_, ?_, ?_⟩, fun c hc => ?_⟩, fun j hj => ?_, ⟨?_, ?_, ?_⟩, fun j hj => mk4_j 4 hj, fun k hk => ?_, rdo', fun a h1 h2 h3 => ?_⟩⟩, fun P => ?_⟩
    · rw [hb 65 (by decide) (by decide) (by decide) (by decide) (by decide), h3o 65 (by decide), e65]
    · rw [hb 76 (by decide) (by decide) (by decide) (by decide) (by decide)]; exact hN
    · rw [hb 76 (by decide) (by decide) (by decide) (by decide) (by decide), i76 1 (by decide)]; exact hd.1.2.1
    · rw [hb 76 (by decide) (by decide) (by decide) (by decide) (by decide), i76 2 (by decide)]; exact hd.1.2.2
    · have hM8 := hw.2.2.1
      obtain ⟨y1, y2, y3, y4, y5, y6⟩ := hd.2 c hc
      have hx : ∀ j, 1 ≤ j → j ≤ 5 → mk4 I5 4 (76 + j) c = I1 (83 + j) c := fun j h1 h2 => by
        rw [hb (76 + j) (by omega) (by omega) (by omega) (by omega) (by omega), ia j c h1 h2 (by omega)]
      refine ⟨(hx 1 (by decide) (by decide)).trans y1, (hx 2 (by decide) (by decide)).trans y2, (hx 3 (by decide) (by decide)).trans y3, (hx 4 (by decide) (by decide)).trans y4, fun k => ?_, ?_⟩
      · rw [hx 5 (by decide) (by decide)]; exact y5 k
      · exact (j82 c (by omega)).trans y6
    · rw [hfin (102 + j) (by omega) (by omega) (by omega) (by omega), h5o (102 + j) (by omega) (by omega) (by omega), h4j j hj, hb 80 (by decide) (by decide) (by decide) (by decide) (by decide)]
    · rw [hfin 90 (by decide) (by decide) (by decide) (by decide), h90]
    · rw [hfin 98 (by decide) (by decide) (by decide) (by decide), h98]
    · rw [hfin 129 (by decide) (by decide) (by decide) (by decide), h129]
    · rw [hb 80 (by decide) (by decide) (by decide) (by decide) (by decide), ib k hk]
    · rw [jo a h2, c1.2.1 a h1 h3]
    · rw [hf] at c4
      have e90 : st I4 90 (upd (I4 90) 0 (nI 0)) 98 = I4 98 := st_ne (by decide)
      have lo := fun P => loop P 4 (Nat.le_refl _)
      simp (discharger := omega) only [↓w116_0, ↓w116_1, ↓w116_4, ↓w116_5, ↓w116_8, ↓w116_11, ↓w116_12, ↓w116_13, ↓w116_16, ↓w116_17, ↓w116_20, ↓w116_21, ↓w116_24, ↓w116_25, ↓w116_26, ↓w116_27, ↓w116_30, ↓w116_31, ↓w116_34, ↓w116_37, ↓w116_38, ↓w116_41, ↓w116_42, ↓w116_45, ↓w116_48, ↓w116_49, ↓w116_52, ↓w116_53, ↓w116_56, ↓w116_57, ↓w116_60, ↓w116_61, ↓w116_64, ↓w116_65, ↓w116_68, ↓w116_71, ↓w116_72, ↓w116_74, ↓w116_75, ↓w116_78, ↓w116_79, ↓w116_82, ↓w116_83, ↓w116_84, ↓w116_85, ↓w116_88, ↓w116_91, ↓w116_94, ↓w116_95, ↓w14_0, ↓w14_1, ↓w14_2, ↓w14_5, rc64, g64_0, g64_1, g64_2, g64_3, g64_4, g64_5, g64_6, g64_7, g64_8, g64_9, g64_10, g64_11, g64_12, rc72, g72_0, g72_1, g72_2, p72_2, g72_3, p72_3, g72_4, p72_4, g72_5, p72_5, rc65, g65_0, g65_1, p65_1, g65_2, g65_3, g65_4, g65_5, g65_6, g65_7, p65_7, rc76, g76_0, p76_0, g76_1, p76_1, g76_2, p76_2, g76_3, g76_4, g76_5, g76_6, g76_7, g76_8, rc83, g83_0, p83_0, g83_1, p83_1, g83_2, p83_2, g83_3, g83_4, g83_5, g83_6, g83_7, g83_8, rc90, g90_0, p90_0, g90_1, g90_2, g90_3, rc98, g98_0, p98_0, g98_1, g98_2, g98_3, rc129, g129_0, g129_1, p129_1, g129_2, p129_2, rcS isS_102, gT0 isT_90, pT0 isT_90, pT0 isT_98, ↓c4, hI2, ↓gcp, ↓sta, st_ne, hI5, ↓kc_i, ↓kc_l, ↓kc_r, ↓kc_n, mul8, mul8', mul4, mul4', nI_add, inT, nclN, ltT, ltF, leT, leF, eqT, eqF, nzF, m1F, m1T, shr, shg, bI0, bI1, bo_bI, bo_1, bo_0, eq10, eq00, frT1, frT2, frT3, fit0, fit1, fit2, fit3, true_and, and_true, ↓reduceIte, Nat.reduceAdd, Nat.reduceMul, and_self, not_false_eq_true, not_true_eq_false, Nat.zero_add, Nat.add_zero]
      rw [lo, hf]
      refine w116_73.trans ?_
      simp (discharger := omega) only [↓w116_0, ↓w116_1, ↓w116_4, ↓w116_5, ↓w116_8, ↓w116_11, ↓w116_12, ↓w116_13, ↓w116_16, ↓w116_17, ↓w116_20, ↓w116_21, ↓w116_24, ↓w116_25, ↓w116_26, ↓w116_27, ↓w116_30, ↓w116_31, ↓w116_34, ↓w116_37, ↓w116_38, ↓w116_41, ↓w116_42, ↓w116_45, ↓w116_48, ↓w116_49, ↓w116_52, ↓w116_53, ↓w116_56, ↓w116_57, ↓w116_60, ↓w116_61, ↓w116_64, ↓w116_65, ↓w116_68, ↓w116_71, ↓w116_72, ↓w116_74, ↓w116_75, ↓w116_78, ↓w116_79, ↓w116_82, ↓w116_83, ↓w116_84, ↓w116_85, ↓w116_88, ↓w116_91, ↓w116_94, ↓w116_95, mul8, mul8', mul4, mul4', nI_add, inT, nclN, ltT, ltF, leT, leF, eqT, eqF, nzF, m1F, m1T, shr, shg, bI0, bI1, bo_bI, bo_1, bo_0, eq10, eq00, frT1, frT2, frT3, fit0, fit1, fit2, fit3, true_and, and_true, ↓reduceIte, Nat.reduceAdd, Nat.reduceMul, and_self, not_false_eq_true, not_true_eq_false, Nat.zero_add, Nat.add_zero]
  · refine ⟨I2, J1, R1, ⟨e65, c2, fun _ => ⟨fun a ha => by rw [eo a (by unfold rdS at ha; omega), c1.1 a ha], c1.2.1⟩, fun z => absurd z hf⟩, fun P => ?_⟩
    have hz : (nI r.2.2 = nI 0) = False := eqF hf (by omega) (by decide)
    simp (discharger := omega) only [↓w116_0, ↓w116_1, ↓w116_4, ↓w116_5, ↓w116_8, ↓w116_11, ↓w116_12, ↓w116_13, ↓w116_16, ↓w116_17, ↓w116_20, ↓w116_21, ↓w116_24, ↓w116_25, ↓w116_26, ↓w116_27, ↓w116_30, ↓w116_31, ↓w116_34, ↓w116_37, ↓w116_38, ↓w116_41, ↓w116_42, ↓w116_45, ↓w116_48, ↓w116_49, ↓w116_52, ↓w116_53, ↓w116_56, ↓w116_57, ↓w116_60, ↓w116_61, ↓w116_64, ↓w116_65, ↓w116_68, ↓w116_71, ↓w116_72, ↓w116_74, ↓w116_75, ↓w116_78, ↓w116_79, ↓w116_82, ↓w116_83, ↓w116_84, ↓w116_85, ↓w116_88, ↓w116_91, ↓w116_94, ↓w116_95, rc64, g64_0, g64_1, g64_2, g64_3, g64_4, g64_5, g64_6, g64_7, g64_8, g64_9, g64_10, g64_11, g64_12, rc72, g72_0, g72_1, g72_2, p72_2, g72_3, p72_3, g72_4, p72_4, g72_5, p72_5, rc65, g65_0, g65_1, p65_1, g65_2, g65_3, g65_4, g65_5, g65_6, g65_7, p65_7, ↓c4, hI2, hz, ↓kc_i, ↓kc_l, ↓kc_r, ↓kc_n, mul8, mul8', mul4, mul4', nI_add, inT, nclN, ltT, ltF, leT, leF, eqT, eqF, nzF, m1F, m1T, shr, shg, bI0, bI1, bo_bI, bo_1, bo_0, eq10, eq00, frT1, frT2, frT3, fit0, fit1, fit2, fit3, true_and, and_true, ↓reduceIte, Nat.reduceAdd, Nat.reduceMul, and_self, not_false_eq_true, not_true_eq_false, Nat.zero_add, Nat.add_zero]
end H3
