/-! the model's group() whole -/
/-- the model's group tells D -/
def MGt (I : Mi) (J : Mj) (g : Nat → Nat) (n F : Nat) (D : Dg) : Prop := (I 422 0 = nI D.1 ∧ I 422 1 = nI D.2.1 ∧ I 422 2 = nI D.2.2.1) ∧ ∀ c, c < D.2.2.1 → I 424 c = kD g n D c ∧ I 425 c = eD g n D c ∧ I 426 c = vD g n D c ∧ I 427 c = lD g n D c ∧ (∀ k, tb (I 457 c) k = (decide (k < D.2.2.1) && (decide (c ≠ k) && clD g n F D c k))) ∧ J 423 c = lN (w27 g n (D.2.2.2.1 c + 1))
section N6
variable {L : Nat} {xs : Nat → Int32} {d : Nat} {P : Option Value → Hp → Prop} {I I' I2 I3 I1 : Mi} {J J' J2 : Mj} {R : Mr} {Z : Mz} {k n i j p w m c e a b sz F M K1 : Nat} {v x y : Int32} {g : Nat → Nat} {D : Dg} {f f' : Nat → Int32} {V : Vw}
theorem okG_D (hW : WD g n F D) (h0 : I 422 0 = nI D.1) (h2 : I 422 2 = nI D.2.2.1) (hc : ∀ c, c < D.2.2.1 → I 425 c = eD g n D c ∧ I 427 c = lD g n D c) : okG (mG I) ∧ gM (mG I) = D.2.2.1 ∧ gN (mG I) = D.1 := by
  have hM8 := hW.2.2.1
  have hN5 : D.1 ≤ 5 := by have := hW.1; omega
  have eN : gN (mG I) = D.1 := by unfold gN; show (I 422 0).toNatClampNeg = D.1; rw [h0, nI_clamp (by omega)]
  have eM : gM (mG I) = D.2.2.1 := by unfold gM; show (I 422 2).toNatClampNeg = D.2.2.1; rw [h2, nI_clamp (by omega)]
  refine ⟨⟨⟨by rw [eN]; exact h0, by rw [eN]; exact hN5⟩, ⟨by rw [eM]; exact h2, by rw [eM]; exact hM8⟩, fun c hc' => ?_, fun c hc' => ?_⟩, eM, eN⟩
  · rw [eM] at hc'
    have hw := hW.2.2.2.1 c hc'
    have hv := vl_lt hw.2.2.2.2.2.2.2.1
    have e : I 427 c = nI (vl g n (D.2.2.2.1 c + 8)) := (hc c hc').2
    have eL : gL (mG I) c = vl g n (D.2.2.2.1 c + 8) := by unfold gL; show (I 427 c).toNatClampNeg = _; rw [e, nI_clamp (by omega)]
    rw [eL, eN]
    exact ⟨e, hw.2.2.2.2.2.2.2.2⟩
  · rw [eM] at hc'
    have hw := hW.2.2.2.1 c hc'
    have hv := vl_lt hw.2.2.2.1.1
    have hK := hW.2.1
    have e : I 425 c = nI (vl g n (D.2.2.2.1 c + 4)) := (hc c hc').1
    have eK : gK (mG I) c = vl g n (D.2.2.2.1 c + 4) := by unfold gK; show (I 425 c).toNatClampNeg = _; rw [e, nI_clamp (by omega)]
    rw [eK]
    exact ⟨e, by have := hw.2.2.2.1.2; omega⟩
def la4 (I : Mi) (m : Nat) : Nat → Int32 := fun q => if q < m then nI 0 else I 456 q
theorem m_group (hn : n ≤ 1000) (hF : 29 < F) (hK : K1 = 1000) (h1 : I 420 1 = nI n) (hs : sgM I g n) (h451 : I 451 = row V) : ∃ I' J', (((∀ a, a < 420 → I' a = I a) ∧ I' 421 = I 421 ∧ (∀ a, 451 < a → a ≠ 456 → a ≠ 457 → I' a = I a) ∧ (∀ a, 443 ≤ a → a ≤ 450 → ∀ k, k ≠ 0 → I' a k = I a k) ∧ (∀ k, k ≠ 0 → k ≠ 1 → k ≠ 3 → k ≠ 4 → k ≠ 5 → k ≠ 6 → k ≠ 8 → k ≠ 9 → k ≠ 19 → k ≠ 32 → k ≠ 47 → I' 420 k = I 420 k) ∧ I' 420 0 = nI 0 ∧ I' 420 1 = nI 0 ∧ (∀ a, a ≠ 420 → a ≠ 423 → J' a = J a) ∧ ∀ k, k ≠ 7 → J' 420 k = J 420 k) ∧ ((gR g n F K1 (0, 0, 0, fun _ => 0, 0) 0).2.2 ≠ 0 → (∀ a, a ≠ 420 → a ≠ 422 → (a < 424 ∨ 432 < a) → I' a = I a) ∧ (∀ k, k < 3 → I' 422 k = I 422 k) ∧ (∀ a, 424 ≤ a → a ≤ 427 → ∀ k, k < 8 → I' a k = I a k) ∧ (∀ k, k < 8 → J' 423 k = J 423 k) ∧ I' 420 47 = I 420 47) ∧ ((gR g n F K1 (0, 0, 0, fun _ => 0, 0) 0).2.2 = 0 → MGt I' J' g n F (gR g n F K1 (0, 0, 0, fun _ => 0, 0) 0).1 ∧ I' 451 = row (frM (mG I')) ∧ (I' 443 0 = nI 0 ∧ I' 447 0 = nI 0 ∧ I' 420 47 = nI 0 ∧ ∀ k, k < 4 → I' 456 k = nI 0))) ∧ ∀ P, Wp L xs (d+6) 210 0 [some (.ref (420)), none] [] (mk I J R Z) P = P (some (.int (nI (gR g n F K1 (0, 0, 0, fun _ => 0, 0) 0).2.2))) (mk I' J' R Z) := by
  generalize hI1 : st I 420 (upd (I 420) 0 (nI 0)) = I1
  have o1 : ∀ a, a ≠ 420 → I1 a = I a := fun a h => by rw [← hI1, st_ne h]
  have o2 : ∀ k, k ≠ 0 → I1 420 k = I 420 k := fun k h => by rw [← hI1, st_eq, upd_ne h]
  have o0 : I1 420 0 = nI 0 := by rw [← hI1, st_eq, upd_eq]
  obtain ⟨I2, J2, ⟨a1, a2, a3⟩, a4⟩ := m_readsAll (L := L) (xs := xs) (d := d) (R := R) (Z := Z) (J := J) (I := I1) hn hF hK (by rw [o2 1 (by decide)]; exact h1) (fun k hk => by rw [o1 421 (by decide)]; exact hs k hk)
  have gw := gR_wd (g := g) (n := n) (F := F) K1 (0, 0, 0, fun _ => 0, 0) 0 ⟨Or.inl rfl, by show 0 ≤ 4; omega, by show 0 ≤ 8; omega, fun c hc => absurd hc (Nat.not_lt_zero c), fun z => absurd rfl z⟩
  generalize gR g n F K1 (0, 0, 0, fun _ => 0, 0) 0 = r at *
  obtain ⟨⟨p1, p2, p3⟩, ⟨p4, p5⟩, p6, p7, p8⟩ := a1
  by_cases hz : r.2.2 = 0
  · have hD := a2 hz
    have hW := gw hz
    have hM8 := hW.2.2.1
    obtain ⟨d0, d1, d2, d3, d4, d5, d6⟩ := id hD
    have hG := MG_la hD
    have l0 : laI I2 422 0 = nI r.1.1 := by rw [la_422 (by decide)]; exact d0.1
    have l1 : laI I2 422 1 = nI r.1.2.1 := by rw [la_422 (by decide)]; exact d1.1
    have l2 : laI I2 422 2 = nI r.1.2.2.1 := by rw [la_422 (by decide)]; exact d2.1
    have la := fun P => m_lays (L := L) (xs := xs) (d := d + 4) (P := P) (I := I2) (J := J2) (R := R) (Z := Z)
    generalize hJ3 : st J2 423 (va_cpy (J2 423) (J2 423) 8 0 8) = J3 at *
    obtain ⟨I4, ⟨c1, c2⟩, c3⟩ := m_laysClashing (L := L) (xs := xs) (d := d + 1) (J := J3) (R := R) (Z := Z) hG hW hn l2
    have i4 : ∀ a, a ≠ 422 → (a < 424 ∨ 430 < a) → (a < 433 ∨ 442 < a) → a ≠ 457 → I4 a = I2 a := fun a x1 x2 x3 x4 => (c1 a x3 x4).trans (la_o x1 x2)
    have q451 : I4 451 = row V := by rw [i4 451 (by decide) (by decide) (by decide) (by decide), p1 451 (by decide) (by decide) (by decide), o1 451 (by decide), h451]
    have hg4 : ∀ c, c < r.1.2.2.1 → I4 424 c = kD g n r.1 c ∧ I4 425 c = eD g n r.1 c ∧ I4 426 c = vD g n r.1 c ∧ I4 427 c = lD g n r.1 c := (MG_f hG c1).1
    have e422 : I4 422 = laI I2 422 := c1 422 (by decide) (by decide)
    obtain ⟨ok4, eM, eN⟩ := okG_D (I := I4) hW (by rw [e422]; exact l0) (by rw [e422]; exact l2) (fun c hc => ⟨(hg4 c hc).2.1, (hg4 c hc).2.2.2⟩)
    have fr := fun P => m_fresh0 (L := L) (xs := xs) (d := d + 5) (P := P) (I := I4) (J := J3) (R := R) (Z := Z) (V := V) ok4
    rw [pm_id q451] at fr
    generalize hI5 : pm I4 (frM (mG I4)) = I5 at *
    have e451 : I5 451 = row (frM (mG I4)) := by rw [← hI5]; exact pm_eq
    have i5 : ∀ a, a ≠ 451 → I5 a = I4 a := fun a h => by rw [← hI5]; exact pm_ne h
    generalize hI6 : st (st (st I5 443 (upd (I5 443) 0 (nI 0))) 447 (upd (I5 447) 0 (nI 0))) 420 (upd (I5 420) 47 (nI 0)) = I6
    have i6 : ∀ a, a ≠ 443 → a ≠ 447 → a ≠ 420 → I6 a = I5 a := fun a x1 x2 x3 => by rw [← hI6, st_ne x3, st_ne x2, st_ne x1]
    have e443 : I6 443 = upd (I5 443) 0 (nI 0) := by rw [← hI6, st_ne (by decide), st_ne (by decide), st_eq]
    have e447 : I6 447 = upd (I5 447) 0 (nI 0) := by rw [← hI6, st_ne (by decide), st_eq]
    have e420 : I6 420 = upd (I5 420) 47 (nI 0) := by rw [← hI6, st_eq]
    have i456 : I6 456 = I5 456 := i6 456 (by decide) (by decide) (by decide)
    have loop : ∀ P m, m ≤ 4 → Wp L xs (d+6) 210 50 [some (.ref (420)), some (.int (nI 0))] [] (mk I6 J3 R Z) P = Wp L xs (d+6) 210 50 [some (.ref (420)), some (.int (nI m))] [] (mk (st I6 456 (la4 I6 m)) J3 R Z) P := by
      intro P m
      induction m with
      | zero =>
        intro _
        have : la4 I6 0 = I6 456 := by funext q; unfold la4; rw [if_neg (by omega)]
        rw [this, st_id]
      | succ m ih =>
        intro hm
        rw [ih (by omega)]
        refine w210_50.trans ?_
        have q1 : upd (la4 I6 m) m (nI 0) = la4 I6 (m + 1) := by
          funext q; unfold upd la4
          by_cases e : q = m
          · subst e; rw [if_pos rfl, if_pos (by omega)]
          · rw [if_neg e]
            by_cases e2 : q < m
            · rw [if_pos e2, if_pos (by omega)]
            · rw [if_neg e2, if_neg (by omega)]
        simp (discharger := omega) only [↓w210_0, ↓w210_1, ↓w210_2, ↓w210_5, ↓w210_6, ↓w210_9, ↓w210_12, ↓w210_13, ↓w210_16, ↓w210_17, ↓w210_18, ↓w210_21, ↓w210_22, ↓w210_25, ↓w210_26, ↓w210_29, ↓w210_30, ↓w210_33, ↓w210_34, ↓w210_35, ↓w210_36, ↓w210_37, ↓w210_40, ↓w210_41, ↓w210_42, ↓w210_43, ↓w210_44, ↓w210_45, ↓w210_48, ↓w210_49, ↓w210_51, ↓w210_52, ↓w210_55, ↓w210_56, ↓w210_59, ↓w210_60, ↓w210_61, ↓w210_62, ↓w210_65, ↓w210_68, ↓w210_69, rc420, g420_0, p420_0, g420_1, p420_1, g420_2, g420_3, p420_3, g420_4, p420_4, g420_5, p420_5, g420_6, p420_6, g420_7, p420_7, g420_8, p420_8, g420_9, p420_9, g420_10, g420_11, g420_12, g420_13, g420_14, g420_15, g420_16, g420_17, g420_18, g420_19, p420_19, g420_20, g420_21, g420_22, g420_23, g420_24, g420_25, g420_26, g420_27, g420_28, g420_29, g420_30, g420_31, g420_32, p420_32, g420_33, g420_34, g420_35, g420_36, g420_37, g420_38, g420_39, g420_40, g420_41, g420_42, g420_43, g420_44, g420_45, g420_46, g420_47, p420_47, g420_48, g420_49, p420_49, gi456, si456, na30, st_eq, st_st, q1, mul8, mul8', mul4, mul4', nI_add, inT, nclN, ltT, ltF, leT, leF, eqT, eqF, nzF, m1F, m1T, shr, shg, bI0, bI1, bo_bI, bo_1, bo_0, eq10, eq00, frT1, frT2, frT3, fit0, fit1, fit2, fit3, true_and, and_true, ↓reduceIte, Nat.reduceAdd, Nat.reduceMul, and_self, not_false_eq_true, not_true_eq_false, Nat.zero_add, Nat.add_zero]
    generalize hI7 : st I6 456 (la4 I6 4) = I7 at *
    have i7 : ∀ a, a ≠ 456 → I7 a = I6 a := fun a h => by rw [← hI7, st_ne h]
    have e456 : I7 456 = la4 I6 4 := by rw [← hI7, st_eq]
    have hbig : ∀ a, a ≠ 420 → a ≠ 443 → a ≠ 447 → a ≠ 451 → a ≠ 456 → I7 a = I4 a := fun a x1 x2 x3 x4 x5 => by rw [i7 a x5, i6 a x2 x3 x1, i5 a x4]
    have f420 : ∀ k, k ≠ 47 → I7 420 k = I2 420 k := fun k hk => by rw [i7 420 (by decide), e420, upd_ne hk, i5 420 (by decide), i4 420 (by decide) (by decide) (by decide) (by decide)]
    have f443 : I5 443 = I 443 := by rw [i5 443 (by decide), i4 443 (by decide) (by decide) (by decide) (by decide), p1 443 (by decide) (by decide) (by decide), o1 443 (by decide)]
    have f447 : I5 447 = I 447 := by rw [i5 447 (by decide), i4 447 (by decide) (by decide) (by decide) (by decide), p1 447 (by decide) (by decide) (by decide), o1 447 (by decide)]
    have hmG : mG I7 = mG I4 := by
      funext q
      unfold mG
      split <;> exact hbig _ (by decide) (by decide) (by decide) (by decide) (by decide)
    refine ⟨I7, J3, ⟨⟨fun a x => ?_, ?_, fun a x1 x2 x3 => ?_, fun a x1 x2 k hk => ?_, fun k y0 y1 y3 y4 y5 y6 y8 y9 y19 y32 y47 => ?_, ?_, ?_, fun a x1 x2 => ?_, fun k hk => ?_⟩, fun z => absurd hz z, fun _ => ⟨⟨⟨?_, ?_, ?_⟩, fun c hc => ?_⟩, ?_, ?_, ?_, ?_, fun k hk => ?_⟩⟩, fun P => ?_⟩
    · rw [hbig a (by omega) (by omega) (by omega) (by omega) (by omega), i4 a (by omega) (by omega) (by omega) (by omega), p1 a (by omega) (by omega) (by omega), o1 a (by omega)]
    · rw [hbig 421 (by decide) (by decide) (by decide) (by decide) (by decide), i4 421 (by decide) (by decide) (by decide) (by decide), p1 421 (by decide) (by decide) (by decide), o1 421 (by decide)]
    · rw [hbig a (by omega) (by omega) (by omega) (by omega) x2, i4 a (by omega) (by omega) (by omega) x3, p1 a (by omega) (by omega) (by omega), o1 a (by omega)]
    · by_cases z1 : a = 443
      · subst z1; rw [i7 443 (by decide), e443, upd_ne hk, f443]
      · by_cases z2 : a = 447
        · subst z2; rw [i7 447 (by decide), e447, upd_ne hk, f447]
        · rw [hbig a (by omega) z1 z2 (by omega) (by omega), i4 a (by omega) (by omega) (by omega) (by omega), p1 a (by omega) (by omega) (by omega), o1 a (by omega)]
    · rw [f420 k y47, p2 k y1 y3 y4 y5 y6 y8 y9 y19 y32, o2 k y0]
    · rw [f420 0 (by decide), p2 0 (by decide) (by decide) (by decide) (by decide) (by decide) (by decide) (by decide) (by decide) (by decide), o0]
    · rw [f420 1 (by decide), p3]
    · rw [← hJ3, st_ne x2, p7 a x1 x2]
    · rw [← hJ3, st_ne (by decide), p8 k hk]
    · rw [hbig 422 (by decide) (by decide) (by decide) (by decide) (by decide), e422]; exact l0
    · rw [hbig 422 (by decide) (by decide) (by decide) (by decide) (by decide), e422]; exact l1
    · rw [hbig 422 (by decide) (by decide) (by decide) (by decide) (by decide), e422]; exact l2
    · obtain ⟨y1, y2, y3, y4⟩ := hg4 c hc
      rw [hbig 424 (by decide) (by decide) (by decide) (by decide) (by decide), hbig 425 (by decide) (by decide) (by decide) (by decide) (by decide), hbig 426 (by decide) (by decide) (by decide) (by decide) (by decide), hbig 427 (by decide) (by decide) (by decide) (by decide) (by decide)]
      refine ⟨y1, y2, y3, y4, fun k => ?_, ?_⟩
      · rw [hbig 457 (by decide) (by decide) (by decide) (by decide) (by decide), c2]
        dsimp only
        rw [if_pos hc, tb_bm (by omega)]
      · rw [← hJ3, st_eq]
        unfold va_cpy
        rw [if_pos (by omega)]
        have := (d3 c hc).2.2.2.2
        rw [show 8 + (c - 0) = 8 + c by omega]
        exact this
    · rw [i7 451 (by decide), i6 451 (by decide) (by decide) (by decide), e451, hmG]
    · rw [i7 443 (by decide), e443, upd_eq]
    · rw [i7 447 (by decide), e447, upd_eq]
    · rw [i7 420 (by decide), e420, upd_eq]
    · rw [e456]; unfold la4; rw [if_pos hk]
    · rw [decide_eq_true hz, bI_t] at a4
      have lo := fun P => loop P 4 (Nat.le_refl _)
      rw [hI7] at lo
      rw [hz]
      simp (discharger := omega) only [↓w210_0, ↓w210_1, ↓w210_2, ↓w210_5, ↓w210_6, ↓w210_9, ↓w210_12, ↓w210_13, ↓w210_16, ↓w210_17, ↓w210_18, ↓w210_21, ↓w210_22, ↓w210_25, ↓w210_26, ↓w210_29, ↓w210_30, ↓w210_33, ↓w210_34, ↓w210_35, ↓w210_36, ↓w210_37, ↓w210_40, ↓w210_41, ↓w210_42, ↓w210_43, ↓w210_44, ↓w210_45, ↓w210_48, ↓w210_49, ↓w210_51, ↓w210_52, ↓w210_55, ↓w210_56, ↓w210_59, ↓w210_60, ↓w210_61, ↓w210_62, ↓w210_65, ↓w210_68, ↓w210_69, rc420, g420_0, p420_0, g420_1, p420_1, g420_2, g420_3, p420_3, g420_4, p420_4, g420_5, p420_5, g420_6, p420_6, g420_7, p420_7, g420_8, p420_8, g420_9, p420_9, g420_10, g420_11, g420_12, g420_13, g420_14, g420_15, g420_16, g420_17, g420_18, g420_19, p420_19, g420_20, g420_21, g420_22, g420_23, g420_24, g420_25, g420_26, g420_27, g420_28, g420_29, g420_30, g420_31, g420_32, p420_32, g420_33, g420_34, g420_35, g420_36, g420_37, g420_38, g420_39, g420_40, g420_41, g420_42, g420_43, g420_44, g420_45, g420_46, g420_47, p420_47, g420_48, g420_49, p420_49, gi443, si443, gi447, si447, hI1, ↓a4, ↓la, ↓c3, ↓fr, st_ne, hI6, ↓kc_i, ↓kc_l, ↓kc_r, ↓kc_n, mul8, mul8', mul4, mul4', nI_add, inT, nclN, ltT, ltF, leT, leF, eqT, eqF, nzF, m1F, m1T, shr, shg, bI0, bI1, bo_bI, bo_1, bo_0, eq10, eq00, frT1, frT2, frT3, fit0, fit1, fit2, fit3, true_and, and_true, ↓reduceIte, Nat.reduceAdd, Nat.reduceMul, and_self, not_false_eq_true, not_true_eq_false, Nat.zero_add, Nat.add_zero]
      rw [lo]
      refine w210_50.trans ?_
      simp (discharger := omega) only [↓w210_0, ↓w210_1, ↓w210_2, ↓w210_5, ↓w210_6, ↓w210_9, ↓w210_12, ↓w210_13, ↓w210_16, ↓w210_17, ↓w210_18, ↓w210_21, ↓w210_22, ↓w210_25, ↓w210_26, ↓w210_29, ↓w210_30, ↓w210_33, ↓w210_34, ↓w210_35, ↓w210_36, ↓w210_37, ↓w210_40, ↓w210_41, ↓w210_42, ↓w210_43, ↓w210_44, ↓w210_45, ↓w210_48, ↓w210_49, ↓w210_51, ↓w210_52, ↓w210_55, ↓w210_56, ↓w210_59, ↓w210_60, ↓w210_61, ↓w210_62, ↓w210_65, ↓w210_68, ↓w210_69, mul8, mul8', mul4, mul4', nI_add, inT, nclN, ltT, ltF, leT, leF, eqT, eqF, nzF, m1F, m1T, shr, shg, bI0, bI1, bo_bI, bo_1, bo_0, eq10, eq00, frT1, frT2, frT3, fit0, fit1, fit2, fit3, true_and, and_true, ↓reduceIte, Nat.reduceAdd, Nat.reduceMul, and_self, not_false_eq_true, not_true_eq_false, Nat.zero_add, Nat.add_zero]
  · have h9 := a3 hz
    refine ⟨I2, J2, ⟨⟨fun a x => ?_, ?_, fun a x1 x2 x3 => ?_, fun a x1 x2 k hk => ?_, fun k y0 y1 y3 y4 y5 y6 y8 y9 y19 y32 y47 => ?_, ?_, p3, p7, p8⟩, fun _ => ⟨fun a x1 x2 x3 => ?_, fun k hk => ?_, fun a x1 x2 k hk => ?_, p6, ?_⟩, fun z => absurd z hz⟩, fun P => ?_⟩
    · rw [p1 a (by omega) (by omega) (by omega), o1 a (by omega)]
    · rw [p1 421 (by decide) (by decide) (by decide), o1 421 (by decide)]
    · rw [p1 a (by omega) (by omega) (by omega), o1 a (by omega)]
    · rw [p1 a (by omega) (by omega) (by omega), o1 a (by omega)]
    · rw [p2 k y1 y3 y4 y5 y6 y8 y9 y19 y32, o2 k y0]
    · rw [p2 0 (by decide) (by decide) (by decide) (by decide) (by decide) (by decide) (by decide) (by decide) (by decide), o0]
    · rw [p1 a x1 x2 x3, o1 a x1]
    · rw [p4 k hk, o1 422 (by decide)]
    · rw [p5 a x1 x2 k (Or.inl hk), o1 a (by omega)]
    · rw [p2 47 (by decide) (by decide) (by decide) (by decide) (by decide) (by decide) (by decide) (by decide) (by decide), o2 47 (by decide)]
    · rw [decide_eq_false hz, bI_f] at a4
      simp (discharger := omega) only [↓w210_0, ↓w210_1, ↓w210_2, ↓w210_5, ↓w210_6, ↓w210_9, ↓w210_12, ↓w210_13, ↓w210_16, ↓w210_17, ↓w210_18, ↓w210_21, ↓w210_22, ↓w210_25, ↓w210_26, ↓w210_29, ↓w210_30, ↓w210_33, ↓w210_34, ↓w210_35, ↓w210_36, ↓w210_37, ↓w210_40, ↓w210_41, ↓w210_42, ↓w210_43, ↓w210_44, ↓w210_45, ↓w210_48, ↓w210_49, ↓w210_51, ↓w210_52, ↓w210_55, ↓w210_56, ↓w210_59, ↓w210_60, ↓w210_61, ↓w210_62, ↓w210_65, ↓w210_68, ↓w210_69, rc420, g420_0, p420_0, g420_1, p420_1, g420_2, g420_3, p420_3, g420_4, p420_4, g420_5, p420_5, g420_6, p420_6, g420_7, p420_7, g420_8, p420_8, g420_9, p420_9, g420_10, g420_11, g420_12, g420_13, g420_14, g420_15, g420_16, g420_17, g420_18, g420_19, p420_19, g420_20, g420_21, g420_22, g420_23, g420_24, g420_25, g420_26, g420_27, g420_28, g420_29, g420_30, g420_31, g420_32, p420_32, g420_33, g420_34, g420_35, g420_36, g420_37, g420_38, g420_39, g420_40, g420_41, g420_42, g420_43, g420_44, g420_45, g420_46, g420_47, p420_47, g420_48, g420_49, p420_49, hI1, ↓a4, h9, ↓kc_i, ↓kc_l, ↓kc_r, ↓kc_n, mul8, mul8', mul4, mul4', nI_add, inT, nclN, ltT, ltF, leT, leF, eqT, eqF, nzF, m1F, m1T, shr, shg, bI0, bI1, bo_bI, bo_1, bo_0, eq10, eq00, frT1, frT2, frT3, fit0, fit1, fit2, fit3, true_and, and_true, ↓reduceIte, Nat.reduceAdd, Nat.reduceMul, and_self, not_false_eq_true, not_true_eq_false, Nat.zero_add, Nat.add_zero]
end N6
