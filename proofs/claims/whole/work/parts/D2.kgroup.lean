/-- cells that reading touches with the class -/
def rdS (a : Nat) : Prop := a = 65 ∨ a = 67 ∨ a = 68 ∨ a = 69 ∨ (72 ≤ a ∧ a ≤ 75) ∨ (83 ≤ a ∧ a ≤ 88)
def rdFr (I : Mi) (J : Mj) (I' : Mi) (J' : Mj) : Prop := (∀ a, ¬ rdS a → I' a = I a) ∧ (∀ a, a ≠ 70 → a ≠ 89 → J' a = J a) ∧ (∀ j, j ≠ 7 → I' 65 j = I 65 j)
/-- the class's group at e (76 or 83) tells D -/
def GDt (I : Mi) (J : Mj) (g : Nat → Nat) (n F : Nat) (D : Dg) (e : Nat) : Prop := (I e 0 = nI D.1 ∧ I e 1 = nI D.2.1 ∧ I e 2 = nI D.2.2.1) ∧ ∀ c, c < D.2.2.1 → I (e + 1) c = kD g n D c ∧ I (e + 2) c = eD g n D c ∧ I (e + 3) c = vD g n D c ∧ I (e + 4) c = lD g n D c ∧ (∀ k, tb (I (e + 5) c) k = (decide (k < D.2.2.1) && clS (clD g n F D) c k)) ∧ J (e + 6) c = lN (w32 g n (D.2.2.2.1 c + 1))
section H2
variable {L : Nat} {xs : Nat → Int32} {d : Nat} {P : Option Value → Hp → Prop} {I I' I2 : Mi} {J J' J2 : Mj} {R R' : Mr} {Z : Mz} {k n i p w b m x T lv dep F M N K le gg c o lo hi K1 : Nat} {g : Nat → Nat} {s : Rs} {φ : Nat → Int32} {l : Lw} {y : Int64} {D : Dg} {f f' : Bool} {Q : Nat → Er} {u : Sk}
theorem ckd_cg {f f' e e' : Nat → Int32} (h1 : f c = f' c) (h2 : f o = f' o) (h3 : e c = e' c) (h4 : e o = e' o) : ckd f e c o = ckd f' e' c o := by unfold ckd; rw [h1, h2, h3, h4]
theorem clS_cg {cl cl' : Nat → Nat → Bool} (h : ∀ c o, o < c → c < M → cl c o = cl' c o) (hc : c < M) (hk : k < M) : clS cl c k = clS cl' c k := by
  unfold clS
  by_cases h1 : k < c
  · rw [if_pos h1, if_pos h1, h c k h1 hc]
  · rw [if_neg h1, if_neg h1]
    by_cases h2 : c < k
    · rw [if_pos h2, if_pos h2, h k c h2 hk]
    · rw [if_neg h2, if_neg h2]
theorem k_readGroup (hl : I 65 1 = nI n) (hn : n ≤ 1000) (hs : sgT I g n) (hF : 29 < F) (hK : K1 = 1000) : ∃ I' J' R', (rdFr I J I' J' ∧ (gR g n F K1 (0, 0, 0, fun _ => 0, 0) 0).2.2 < 100000 ∧ ((gR g n F K1 (0, 0, 0, fun _ => 0, 0) 0).2.2 = 0 → GDt I' J' g n F (gR g n F K1 (0, 0, 0, fun _ => 0, 0) 0).1 83)) ∧ ∀ P, Wp L xs (d+2*F+8) 26 0 [some (.ref (72)), some (.ref (83)), none] [] (mk I J R Z) P = P (some (.int (nI (gR g n F K1 (0, 0, 0, fun _ => 0, 0) 0).2.2))) (mk I' J' R' Z) := by
  have hg : ∀ k, k < n → g k < 256 := fun k hk => by have := okc_lt (hs k hk).2; omega
  obtain ⟨I1, J1, R1, T, ⟨c1, c2⟩, c3⟩ := k_begin (L := L) (xs := xs) (d := d + 2 * F) (J := J) (R := R) (Z := Z) hl hn hs
  have hTn := cutT_T c2
  generalize hI2 : st (st (st I1 83 (upd (upd (upd (I1 83) 0 (nI 0)) 1 (nI 0)) 2 (nI 0))) 73 (upd (I1 73) 1 (nI 0))) 72 (upd (I1 72) 2 (nI 0)) = I2
  have e72 : I2 72 = upd (I1 72) 2 (nI 0) := by rw [← hI2, st_eq]
  have e73 : I2 73 = upd (I1 73) 1 (nI 0) := by rw [← hI2, st_ne (by decide), st_eq]
  have e83 : I2 83 = upd (upd (upd (I1 83) 0 (nI 0)) 1 (nI 0)) 2 (nI 0) := by rw [← hI2, st_ne (by decide), st_ne (by decide), st_eq]
  have eo : ∀ a, a ≠ 72 → a ≠ 73 → a ≠ 83 → I2 a = I1 a := fun a h1 h2 h3 => by rw [← hI2, st_ne h1, st_ne h2, st_ne h3]
  have hT2 : cutT I2 J1 R1 g n T := cutT_cg (fun a h1 h2 => eo a (by omega) (by omega) (by omega)) rfl rfl c2
  have hCD : CD I2 J1 g n F (0, 0, 0, fun _ => 0, 0) := by
    refine ⟨⟨by rw [e83, upd_ne (by decide), upd_ne (by decide), upd_eq], by show 0 < 10; omega⟩, ⟨by rw [e83, upd_ne (by decide), upd_eq], by show 0 < 10; omega⟩, ⟨by rw [e83, upd_eq], by show 0 ≤ 8; omega⟩, fun c hc => absurd hc (Nat.not_lt_zero c), by rw [e72, upd_eq]; rfl, I2 74, ?_⟩
    have : lwD g n F 0 = [] := if_pos rfl
    show I2 = lw I2 (adds (0, I2 74) (lwD g n F 0))
    rw [this]
    show I2 = st (st I2 73 (upd (I2 73) 1 (nI 0))) 74 (I2 74)
    rw [show upd (I2 73) 1 (nI 0) = I2 73 by rw [e73, upd_upd], st_id, st_id]
  obtain ⟨I3, J3, x, ⟨f1, f2, f3, f4⟩, f5⟩ := k_gLoop (L := L) (xs := xs) (d := d + 1) (Z := Z) (R := R1) hn hg hF K1 0 (0, 0, 0, fun _ => 0, 0) 0 I2 J1 (by omega) hT2 (Nat.zero_le _) hCD
  have hWD : WD g n F (0, 0, 0, fun _ => 0, 0) := ⟨Or.inl rfl, by show 0 ≤ 4; omega, by show 0 ≤ 8; omega, fun c hc => absurd hc (Nat.not_lt_zero c), fun z => absurd rfl z⟩
  have gw := gR_wd (g := g) (n := n) (F := F) K1 _ 0 hWD
  generalize gR g n F K1 (0, 0, 0, fun _ => 0, 0) 0 = r at *
  have fr1 : ∀ I9 : Mi, (∀ a, a ≠ 72 → a ≠ 73 → a ≠ 74 → a ≠ 75 → (a < 83 ∨ 88 < a) → I9 a = I3 a) → rdFr I J I9 J3 := by
    intro I9 h9
    refine ⟨fun a ha => ?_, fun a h1 h2 => ?_, fun j hj => ?_⟩
    · unfold rdS at ha
      rw [h9 a (by omega) (by omega) (by omega) (by omega) (by omega), f1.1 a (by omega) (by omega) (by omega) (by omega), eo a (by omega) (by omega) (by omega), c1.1 a (by omega) (by omega) (by omega) (by omega)]
    · rw [f1.2.1 a h2, c1.2.2.1 a h1]
    · rw [h9 65 (by omega) (by omega) (by omega) (by omega) (by omega), f1.1 65 (by omega) (by omega) (by omega) (by omega), eo 65 (by omega) (by omega) (by omega), c1.2.1 j hj]
  have rw5 : ∀ I : Mi, rd I r.2 72 5 = nI r.2.2 := fun I => rd72_5
  have hlt : r.2.2 < 100000 := f3.2
  have hhead : ∀ P, Wp L xs (d+2*F+8) 26 0 [some (.ref (72)), some (.ref (83)), none] [] (mk I J R Z) P = Wp L xs (d+2*F+8) 26 59 [some (.ref (72)), some (.ref (83)), some (.int (x))] [] (mk (rd I3 r.2) J3 (rr R1 g n r.2.1) Z) P := fun P => by
    have h5 := f5 P
    rw [show d + 1 + 2 * F + 7 = d + 2 * F + 8 by omega] at h5
    rw [← h5]
    have rwz : ∀ I s v, st (rd I s) 72 (upd (rd I s 72) 2 v) = rd (st I 72 (upd (I 72) 2 v)) s := fun I s v => rd_w2
    simp (discharger := omega) only [↓w26_0, ↓w26_1, ↓w26_4, ↓w26_5, ↓w26_6, ↓w26_9, ↓w26_10, ↓w26_11, ↓w26_14, ↓w26_15, ↓w26_16, ↓w26_19, ↓w26_20, ↓w26_23, ↓w26_24, ↓w26_27, ↓w26_28, ↓w26_29, ↓w26_32, ↓w26_33, ↓w26_35, ↓w26_38, ↓w26_41, ↓w26_42, ↓w26_45, ↓w26_48, ↓w26_49, ↓w26_50, ↓w26_53, ↓w26_56, ↓w26_60, ↓w26_63, ↓w26_66, ↓w26_67, ↓w26_68, ↓w26_71, ↓w26_74, ↓w26_75, ↓w26_78, rc72, g72_0, g72_1, g72_2, p72_2, g72_3, p72_3, g72_4, p72_4, g72_5, p72_5, rc73, g73_0, g73_1, p73_1, g73_2, g73_3, p73_3, rc83, g83_0, p83_0, g83_1, p83_1, g83_2, p83_2, g83_3, g83_4, g83_5, g83_6, g83_7, g83_8, ↓c3, rdo, rd_st, rwz, st_eq, st_st, st_ne, hI2, ↓kc_i, ↓kc_l, ↓kc_r, ↓kc_n, mul8, mul8', mul4, mul4', nI_add, inT, nclN, ltT, ltF, leT, leF, eqT, eqF, nzF, m1F, m1T, shr, shg, bI0, bI1, bo_bI, bo_1, bo_0, eq10, eq00, frT1, frT2, frT3, fit0, fit1, fit2, fit3, true_and, and_true, ↓reduceIte, Nat.reduceAdd, Nat.reduceMul, and_self, not_false_eq_true, not_true_eq_false, Nat.zero_add, Nat.add_zero]
  by_cases hf : r.2.2 = 0
  · have hcd := f4 hf
    have hwd := gw hf
    obtain ⟨q0, q1, q2, q3, q4, ψ, q5⟩ := id hcd
    have hW : ∀ c o, o < c → c < r.1.2.2.1 → ∀ u f, ∃ u', ∀ P, Wp L xs (d+2*F+4+2) 17 0 [some (.ref (73)), some (.ref (83)), some (.int (nI c)), some (.int (nI o)), none, none, none, none] [] (mk (sk (st (rd I3 r.2) 88 f) u) J3 (rr R1 g n r.2.1) Z) P = P (some (.int (VD g n F r.1 c o))) (mk (sk (st (rd I3 r.2) 88 f) u') J3 (rr R1 g n r.2.1) Z) := by
      intro c o ho hc u f
      have i73 : sk (st (rd I3 r.2) 88 f) u 73 1 = I3 73 1 := by rw [sk73_1, st_ne (by decide), rdo (by decide)]
      have io : ∀ a, a ≠ 73 → a ≠ 75 → a ≠ 88 → a ≠ 72 → sk (st (rd I3 r.2) 88 f) u a = I3 a := fun a h1 h2 h3 h4 => by rw [sko h1 h2, st_ne h3, rdo h4]
      have hph : phC (sk (st (rd I3 r.2) 88 f) u) c o = phD g n r.1 c o := by
        obtain ⟨y1, y2, y3, y4, -⟩ := q3 c hc
        obtain ⟨z1, z2, z3, z4, -⟩ := q3 o (by omega)
        funext k
        unfold phC phD eD vD lD
        rw [io 85 (by decide) (by decide) (by decide) (by decide), io 86 (by decide) (by decide) (by decide) (by decide), io 87 (by decide) (by decide) (by decide) (by decide), y2, y3, y4, z2, z3, z4]
      have l73 : I3 73 1 = nI (adds (0, ψ) (lwD g n F r.1.2.2.2.2)).1 := by rw [q5]; exact lw73
      have l74 : I3 74 = (adds (0, ψ) (lwD g n F r.1.2.2.2.2)).2 := by rw [q5]; exact lw74
      by_cases hle : r.1.2.2.2.2 = 0
      · have e0 : lwD g n F r.1.2.2.2.2 = [] := if_pos hle
        rw [e0] at l73
        have := k_worth (L := L) (xs := xs) (d := d + 2 * F + 4) (J := J3) (R := rr R1 g n r.2.1) (Z := Z) (I := sk (st (rd I3 r.2) 88 f) u) (z := 0) (c := c) (o := o) (cs := []) (v := nI 0) (by rw [i73, l73]; rfl) (by decide) (by omega) (by omega) rfl (fun k hk => by simp at hk) (Or.inl ⟨rfl, rfl⟩)
        obtain ⟨u', e⟩ := this
        refine ⟨u', fun P => ?_⟩
        rw [e P, sk_sk]
        unfold VD
        rw [if_pos hle]
      · have e0 : lwD g n F r.1.2.2.2.2 = (pE g n F 0 0 r.1.2.2.2.2).2.2.1 := if_neg hle
        have hz := hwd.2.2.2.2 hle
        have hleT : r.1.2.2.2.2 ≤ T := by
          by_cases hq : r.1.2.2.2.2 ≤ T
          · exact hq
          · exact absurd c2.2.1 (kd_mono2 hz.2 (show T ≤ r.1.2.2.2.2 - 1 by omega))
        have hok := pE_ok c2 hn F 0 0 r.1.2.2.2.2 hleT
        have hok1 : (pE g n F 0 0 r.1.2.2.2.2).1 ≤ T := hok.1
        have hlen := pE_len F 0 0 r.1.2.2.2.2 hz.1
        rw [e0] at l73 l74
        obtain ⟨a1, a2, -⟩ := adds_len (pE g n F 0 0 r.1.2.2.2.2).2.2.1 (0, ψ) (by show 0 + _ ≤ 1000; omega)
        have hE := ev_pE (L := L) (xs := xs) (d := d + 2 * F + 4) (J := J3) (R := rr R1 g n r.2.1) (Z := Z) (I := sk (st (rd I3 r.2) 88 f) u) (g := g) (n := n) (z := (pE g n F 0 0 r.1.2.2.2.2).2.2.1.length) (c := c) (o := o) (by rw [i73, l73, a1]; show nI (0 + _) = _; rw [Nat.zero_add]) (by omega) (by omega) (by omega) F 0 0 r.1.2.2.2.2 (by decide) (by decide) hz.1
        rw [hph] at hE
        obtain ⟨u', e⟩ := k_worth (L := L) (xs := xs) (d := d + 2 * F + 4) (J := J3) (R := rr R1 g n r.2.1) (Z := Z) (I := sk (st (rd I3 r.2) 88 f) u) (z := (pE g n F 0 0 r.1.2.2.2.2).2.2.1.length) (c := c) (o := o) (cs := (pE g n F 0 0 r.1.2.2.2.2).2.2.1) (v := (pE g n F 0 0 r.1.2.2.2.2).2.2.2 (phD g n r.1 c o)) (by rw [i73, l73, a1]; show nI (0 + _) = _; rw [Nat.zero_add]) (by omega) (by omega) (by omega) rfl (fun k hk => by
          rw [io 74 (by decide) (by decide) (by decide) (by decide), l74]
          have := a2 k hk
          rw [show ((0, ψ) : Lw).1 + k = k from Nat.zero_add k] at this
          exact this) (Or.inr hE)
        refine ⟨u', fun P => ?_⟩
        rw [e P, sk_sk]
        unfold VD
        rw [if_neg hle]
    have hlc := k_layClashes (L := L) (xs := xs) (d := d + 2 * F + 4) (J := J3) (R := rr R1 g n r.2.1) (Z := Z) (I := rd I3 r.2) (M := r.1.2.2.1) (by rw [rdo (by decide)]; exact q2.1) q2.2 hW
    obtain ⟨u, hu⟩ := hlc
    generalize hf8 : lyC (clV (rd I3 r.2) (VD g n F r.1)) r.1.2.2.1 (rd I3 r.2 88) = f8 at *
    have io : ∀ a, a ≠ 73 → a ≠ 75 → a ≠ 88 → a ≠ 72 → sk (st (rd I3 r.2) 88 f8) u a = I3 a := fun a h1 h2 h3 h4 => by rw [sko h1 h2, st_ne h3, rdo h4]
    have i5 : sk (st (rd I3 r.2) 88 f8) u 72 5 = nI r.2.2 := by rw [sko (by decide) (by decide), st_ne (by decide), rd72_5]
    refine ⟨sk (st (rd I3 r.2) 88 f8) u, J3, rr R1 g n r.2.1, ⟨fr1 _ (fun a h1 h2 h3 h4 h5 => io a h2 h4 (by omega) h1), hlt, fun _ => ⟨?_, fun c hc => ?_⟩⟩, fun P => ?_⟩
    · rw [io 83 (by decide) (by decide) (by decide) (by decide)]
      exact ⟨q0.1, q1.1, q2.1⟩
    · obtain ⟨y1, y2, y3, y4, y5⟩ := q3 c hc
      refine ⟨?_, ?_, ?_, ?_, fun k => ?_, y5⟩
      · rw [io 84 (by decide) (by decide) (by decide) (by decide)]; exact y1
      · rw [io 85 (by decide) (by decide) (by decide) (by decide)]; exact y2
      · rw [io 86 (by decide) (by decide) (by decide) (by decide)]; exact y3
      · rw [io 87 (by decide) (by decide) (by decide) (by decide)]; exact y4
      · rw [sko (by decide) (by decide), st_eq, ← hf8, lyC_tb k _ q2.2 c hc]
        by_cases hk : k < r.1.2.2.1
        · rw [decide_eq_true hk, Bool.true_and, Bool.true_and]
          refine clS_cg (M := r.1.2.2.1) (fun c o ho hc => ?_) hc hk
          unfold clV clD
          obtain ⟨y1, y2, -⟩ := q3 c hc
          obtain ⟨z1, z2, -⟩ := q3 o (by omega)
          rw [rdo (by decide), rdo (by decide), ckd_cg (f := I3 84) (f' := kD g n r.1) (e := I3 85) (e' := eD g n r.1) y1 z1 y2 z2]
        · rw [decide_eq_false hk, Bool.false_and, Bool.false_and]
    · rw [hhead]
      simp (discharger := omega) only [↓w26_0, ↓w26_1, ↓w26_4, ↓w26_5, ↓w26_6, ↓w26_9, ↓w26_10, ↓w26_11, ↓w26_14, ↓w26_15, ↓w26_16, ↓w26_19, ↓w26_20, ↓w26_23, ↓w26_24, ↓w26_27, ↓w26_28, ↓w26_29, ↓w26_32, ↓w26_33, ↓w26_35, ↓w26_38, ↓w26_41, ↓w26_42, ↓w26_45, ↓w26_48, ↓w26_49, ↓w26_50, ↓w26_53, ↓w26_56, ↓w26_59, ↓w26_60, ↓w26_63, ↓w26_66, ↓w26_67, ↓w26_68, ↓w26_71, ↓w26_74, ↓w26_75, ↓w26_78, rc72, g72_0, g72_1, g72_2, p72_2, g72_3, p72_3, g72_4, p72_4, g72_5, p72_5, rc73, g73_0, g73_1, p73_1, g73_2, g73_3, p73_3, rc83, g83_0, p83_0, g83_1, p83_1, g83_2, p83_2, g83_3, g83_4, g83_5, g83_6, g83_7, g83_8, rw5, hf, ↓kc_i, ↓kc_l, ↓kc_r, ↓kc_n, mul8, mul8', mul4, mul4', nI_add, inT, nclN, ltT, ltF, leT, leF, eqT, eqF, nzF, m1F, m1T, shr, shg, bI0, bI1, bo_bI, bo_1, bo_0, eq10, eq00, frT1, frT2, frT3, fit0, fit1, fit2, fit3, true_and, and_true, ↓reduceIte, Nat.reduceAdd, Nat.reduceMul, and_self, not_false_eq_true, not_true_eq_false, Nat.zero_add, Nat.add_zero]
      rw [hf] at i5
      refine (hu _).trans ?_
      simp (discharger := omega) only [↓w26_0, ↓w26_1, ↓w26_4, ↓w26_5, ↓w26_6, ↓w26_9, ↓w26_10, ↓w26_11, ↓w26_14, ↓w26_15, ↓w26_16, ↓w26_19, ↓w26_20, ↓w26_23, ↓w26_24, ↓w26_27, ↓w26_28, ↓w26_29, ↓w26_32, ↓w26_33, ↓w26_35, ↓w26_38, ↓w26_41, ↓w26_42, ↓w26_45, ↓w26_48, ↓w26_49, ↓w26_50, ↓w26_53, ↓w26_56, ↓w26_59, ↓w26_60, ↓w26_63, ↓w26_66, ↓w26_67, ↓w26_68, ↓w26_71, ↓w26_74, ↓w26_75, ↓w26_78, rc72, g72_0, g72_1, g72_2, p72_2, g72_3, p72_3, g72_4, p72_4, g72_5, p72_5, rc73, g73_0, g73_1, p73_1, g73_2, g73_3, p73_3, rc83, g83_0, p83_0, g83_1, p83_1, g83_2, p83_2, g83_3, g83_4, g83_5, g83_6, g83_7, g83_8, i5, ↓kc_i, ↓kc_l, ↓kc_r, ↓kc_n, mul8, mul8', mul4, mul4', nI_add, inT, nclN, ltT, ltF, leT, leF, eqT, eqF, nzF, m1F, m1T, shr, shg, bI0, bI1, bo_bI, bo_1, bo_0, eq10, eq00, frT1, frT2, frT3, fit0, fit1, fit2, fit3, true_and, and_true, ↓reduceIte, Nat.reduceAdd, Nat.reduceMul, and_self, not_false_eq_true, not_true_eq_false, Nat.zero_add, Nat.add_zero]
  · refine ⟨rd I3 r.2, J3, rr R1 g n r.2.1, ⟨fr1 _ (fun a h1 h2 h3 h4 h5 => rdo h1), hlt, fun z => absurd z hf⟩, fun P => ?_⟩
    rw [hhead]
    simp (discharger := omega) only [↓w26_0, ↓w26_1, ↓w26_4, ↓w26_5, ↓w26_6, ↓w26_9, ↓w26_10, ↓w26_11, ↓w26_14, ↓w26_15, ↓w26_16, ↓w26_19, ↓w26_20, ↓w26_23, ↓w26_24, ↓w26_27, ↓w26_28, ↓w26_29, ↓w26_32, ↓w26_33, ↓w26_35, ↓w26_38, ↓w26_41, ↓w26_42, ↓w26_45, ↓w26_48, ↓w26_49, ↓w26_50, ↓w26_53, ↓w26_56, ↓w26_59, ↓w26_60, ↓w26_63, ↓w26_66, ↓w26_67, ↓w26_68, ↓w26_71, ↓w26_74, ↓w26_75, ↓w26_78, rc72, g72_0, g72_1, g72_2, p72_2, g72_3, p72_3, g72_4, p72_4, g72_5, p72_5, rw5, ↓kc_i, ↓kc_l, ↓kc_r, ↓kc_n, mul8, mul8', mul4, mul4', nI_add, inT, nclN, ltT, ltF, leT, leF, eqT, eqF, nzF, m1F, m1T, shr, shg, bI0, bI1, bo_bI, bo_1, bo_0, eq10, eq00, frT1, frT2, frT3, fit0, fit1, fit2, fit3, true_and, and_true, ↓reduceIte, Nat.reduceAdd, Nat.reduceMul, and_self, not_false_eq_true, not_true_eq_false, Nat.zero_add, Nat.add_zero]
end H2
