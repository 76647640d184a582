/-! THE CLASS READS A GROUP: D = (replicas, keys, commands, at which token each command begins, at which token the law begins or 0) -/
abbrev Dg : Type := Nat × Nat × Nat × (Nat → Nat) × Nat
def w32 (g : Nat → Nat) (n i : Nat) : Nat := vbo 32 96 g (bg g n i) (wl g n i)
def w27 (g : Nat → Nat) (n i : Nat) : Nat := vbo 27 96 g (bg g n i) (wl g n i)
def fndN (A : Nat → Int64) (M : Nat) (x : Int64) : Bool := (ff M (fun c => decide (A c = x))).isSome
def sA3 (g : Nat → Nat) (n : Nat) (b : Prop) [Decidable b] (i : Nat) : Rs := ad g n (if b then wr g n 3 (i, 0) else (i, 0))
def sA4 (g : Nat → Nat) (n : Nat) (s : Rs) : Rs := if kd g n s.1 = 2 ∧ vl g n s.1 = 4 then wr g n 4 s else s
def sRep (g : Nat → Nat) (n N i : Nat) : Rs := tkS g n 59 (tkN g n 3 6 (sA4 g n (sA3 g n (N ≠ 0) i)))
def sKey (g : Nat → Nat) (n K i : Nat) : Rs := tkS g n 59 (tkN g n 1 5 (sA3 g n (K ≠ 0) i))
def sC1 (g : Nat → Nat) (n i : Nat) : Rs := ad g n (i, 0)
def sC2 (g : Nat → Nat) (n : Nat) (f : Bool) (i : Nat) : Rs := tkNN g n f (sC1 g n i)
def sC4 (g : Nat → Nat) (n : Nat) (f : Bool) (i : Nat) : Rs := tkW g n 3 (tkK g n (sC2 g n f i))
def sC6 (g : Nat → Nat) (n K : Nat) (f : Bool) (i : Nat) : Rs := tkW g n 4 (tkN g n 0 K (sC4 g n f i))
def sC8 (g : Nat → Nat) (n K : Nat) (f : Bool) (i : Nat) : Rs := tkW g n 5 (tkN g n 0 100 (sC6 g n K f i))
def sCmd (g : Nat → Nat) (n N K M : Nat) (f : Bool) (i : Nat) : Rs := if 8 ≤ M then wr g n 5 (i, 0) else tkS g n 59 (tkN g n 0 N (sC8 g n K f i))
def sLv (g : Nat → Nat) (n F : Nat) (s : Rs) : Rs := if s.2 = 0 then er (pE g n F 0 0 s.1) else s
def sLaw (g : Nat → Nat) (n F le i : Nat) : Rs := tkS g n 59 (sLv g n F (sA3 g n (le ≠ 0) i))
def sNm (g : Nat → Nat) (n : Nat) (D : Dg) (i : Nat) : Bool := fndN (fun c => lN (w32 g n (D.2.2.2.1 c + 1))) D.2.2.1 (lN (w32 g n (i + 1)))
def stmS (g : Nat → Nat) (n F : Nat) (D : Dg) (i : Nat) : Rs := if wd g n i = 0 then sRep g n D.1 i else if wd g n i = 1 then sKey g n D.2.1 i else if wd g n i = 2 then sCmd g n D.1 D.2.1 D.2.2.1 (sNm g n D i) i else if wd g n i = 6 then sLaw g n F D.2.2.2.2 i else wr g n 1 (i, 0)
def va_n (f : Nat → Nat) (k v : Nat) : Nat → Nat := fun j => if j = k then v else f j
def stmD (g : Nat → Nat) (n : Nat) (D : Dg) (i : Nat) : Dg := if wd g n i = 0 then (vl g n (i + 1), D.2) else if wd g n i = 1 then (D.1, vl g n (i + 1), D.2.2) else if wd g n i = 2 then (D.1, D.2.1, D.2.2.1 + 1, va_n D.2.2.2.1 D.2.2.1 i, D.2.2.2.2) else (D.1, D.2.1, D.2.2.1, D.2.2.2.1, i + 1)
def lwD (g : Nat → Nat) (n F : Nat) (le : Nat) : List Int32 := if le = 0 then [] else (pE g n F 0 0 le).2.2.1
/-- the class's draft tells D -/
def CD (I : Mi) (J : Mj) (g : Nat → Nat) (n F : Nat) (D : Dg) : Prop := (I 83 0 = nI D.1 ∧ D.1 < 10) ∧ (I 83 1 = nI D.2.1 ∧ D.2.1 < 10) ∧ (I 83 2 = nI D.2.2.1 ∧ D.2.2.1 ≤ 8) ∧ (∀ c, c < D.2.2.1 → I 84 c = wNu (wd g n (D.2.2.2.1 c + 2)) ∧ I 85 c = nI (vl g n (D.2.2.2.1 c + 4)) ∧ I 86 c = nI (vl g n (D.2.2.2.1 c + 6)) ∧ I 87 c = nI (vl g n (D.2.2.2.1 c + 8)) ∧ J 89 c = lN (w32 g n (D.2.2.2.1 c + 1))) ∧ I 72 2 = bI (decide (D.2.2.2.2 ≠ 0)) ∧ ∃ φ, I = lw I (adds (0, φ) (lwD g n F D.2.2.2.2))
/-- nothing but the reader, the law, the draft changed -/
def rdF (I : Mi) (J : Mj) (I' : Mi) (J' : Mj) : Prop := (∀ a, a ≠ 72 → a ≠ 73 → a ≠ 74 → (a < 83 ∨ 88 < a) → I' a = I a) ∧ (∀ a, a ≠ 89 → J' a = J a) ∧ I' 88 = I 88
section G6
variable {L : Nat} {xs : Nat → Int32} {d : Nat} {P : Option Value → Hp → Prop} {I I' : Mi} {J J' : Mj} {R R' : Mr} {Z : Mz} {k n i p w b m x T lv dep F M N K le gg : Nat} {g : Nat → Nat} {s : Rs} {φ : Nat → Int32} {l : Lw} {c : Int32} {r : Er} {Q : Nat → Er} {y : Int64} {D : Dg} {f : Bool}
theorem k_commandNamed (hg : isG gg) (hM : I gg 2 = nI M) (hM8 : M ≤ 8) : Wp L xs d 3 0 [some (.ref (gg)), some (.long (y)), none, none] [] (mk I J R Z) P = P (some (.int (oN (ff M (fun c => decide (J (gg + 6) c = y)))))) (mk I J R Z) := by
  simp (discharger := omega) only [↓w3_0, ↓w3_1, ↓w3_3, ↓w3_4, ↓w3_7, ↓w3_10, ↓w3_11, ↓w3_14, ↓w3_15, ↓w3_16, ↓w3_17, ↓w3_18, ↓w3_21, ↓w3_22, ↓w3_23, ↓w3_26, ↓w3_29, ↓w3_30, mul8, mul8', mul4, mul4', nI_add, inT, nclN, ltT, ltF, leT, leF, eqT, eqF, nzF, m1F, m1T, shr, shg, bI0, bI1, bo_bI, bo_1, bo_0, eq10, eq00, frT1, frT2, frT3, fit0, fit1, fit2, fit3, true_and, and_true, ↓reduceIte, Nat.reduceAdd, Nat.reduceMul, and_self, not_false_eq_true, not_true_eq_false, Nat.zero_add, Nat.add_zero]
  refine ff_anyN (T := Unit) (F := fun i _ => Wp L xs d 3 2 [some (.ref (gg)), some (.long (y)), none, some (.int (nI i))] [] (mk I J R Z) P) (p := fun c => decide (J (gg + 6) c = y)) (G := fun x => P (some (.int x)) (mk I J R Z)) M ?_ ?_ ()
  · intro i _ hi
    refine ⟨(), w3_2.trans ?_⟩
    simp (discharger := omega) only [↓w3_0, ↓w3_1, ↓w3_3, ↓w3_4, ↓w3_7, ↓w3_10, ↓w3_11, ↓w3_14, ↓w3_15, ↓w3_16, ↓w3_17, ↓w3_18, ↓w3_21, ↓w3_22, ↓w3_23, ↓w3_26, ↓w3_29, ↓w3_30, gG0 hg, gG1 hg, gG2 hg, gG3 hg, gG4 hg, gG5 hg, gG6 hg, gG7 hg, gG8 hg, giG1 hg, giG2 hg, giG3 hg, giG4 hg, giG5 hg, siG1 hg, siG2 hg, siG3 hg, siG4 hg, siG5 hg, pG0 hg, pG1 hg, pG2 hg, rcG hg, glG6 hg, slG6 hg, hM, lgc, mul8, mul8', mul4, mul4', nI_add, inT, nclN, ltT, ltF, leT, leF, eqT, eqF, nzF, m1F, m1T, shr, shg, bI0, bI1, bo_bI, bo_1, bo_0, eq10, eq00, frT1, frT2, frT3, fit0, fit1, fit2, fit3, true_and, and_true, ↓reduceIte, Nat.reduceAdd, Nat.reduceMul, and_self, not_false_eq_true, not_true_eq_false, Nat.zero_add, Nat.add_zero]
    by_cases q : J (gg + 6) i = y <;> simp [q]
  · intro _
    refine w3_2.trans ?_
    simp (discharger := omega) only [↓w3_0, ↓w3_1, ↓w3_3, ↓w3_4, ↓w3_7, ↓w3_10, ↓w3_11, ↓w3_14, ↓w3_15, ↓w3_16, ↓w3_17, ↓w3_18, ↓w3_21, ↓w3_22, ↓w3_23, ↓w3_26, ↓w3_29, ↓w3_30, gG0 hg, gG1 hg, gG2 hg, gG3 hg, gG4 hg, gG5 hg, gG6 hg, gG7 hg, gG8 hg, giG1 hg, giG2 hg, giG3 hg, giG4 hg, giG5 hg, siG1 hg, siG2 hg, siG3 hg, siG4 hg, siG5 hg, pG0 hg, pG1 hg, pG2 hg, rcG hg, glG6 hg, slG6 hg, hM, mul8, mul8', mul4, mul4', nI_add, inT, nclN, ltT, ltF, leT, leF, eqT, eqF, nzF, m1F, m1T, shr, shg, bI0, bI1, bo_bI, bo_1, bo_0, eq10, eq00, frT1, frT2, frT3, fit0, fit1, fit2, fit3, true_and, and_true, ↓reduceIte, Nat.reduceAdd, Nat.reduceMul, and_self, not_false_eq_true, not_true_eq_false, Nat.zero_add, Nat.add_zero]
theorem sA3_ok {q : Prop} [Decidable q] (hT : cutT I J R g n T) (hn : n ≤ 1000) (hi : i ≤ T) : okRs T (sA3 g n q i) := ad_ok hT (ite_ok (wr_ok hn (by decide) ⟨hi, by show 0 < 100000; omega⟩) ⟨hi, by show 0 < 100000; omega⟩)
theorem sA4_ok (hn : n ≤ 1000) (hs : okRs T s) : okRs T (sA4 g n s) := ite_ok (wr_ok hn (by decide) hs) hs
theorem sA4_1 : (sA4 g n s).1 = s.1 := ite_1 wr_1 rfl
theorem cutT_st {a : Nat} (h : a < 65 ∨ 70 ≤ a) (hT : cutT I J R g n T) : cutT (st I a φ) J R g n T := cutT_cg (fun b h1 h2 => st_ne (by omega)) rfl rfl hT
theorem cutT_sJ {a : Nat} {ψ : Nat → Int64} (h : a ≠ 70) (hT : cutT I J R g n T) : cutT I (st J a ψ) R g n T := cutT_cg (fun b h1 h2 => rfl) (st_ne (fun z => h z.symm)) rfl hT
theorem k_s3 {q : Prop} [Decidable q] (hT : cutT I J R g n T) (hn : n ≤ 1000) (hi : i ≤ T) : q → Wp L xs d 47 0 [some (.ref (72)), some (.int (nI 3))] [] (mk (rd I (i, 0)) J (rr R g n i) Z) P = P none (mk (rd I (wr g n 3 (i, 0))) J (rr R g n i) Z) := fun _ => by
  have := k_wrong (L := L) (xs := xs) (d := d) (P := P) (Z := Z) (k := 3) (s := (i, 0)) hT hn ⟨hi, by show 0 < 100000; omega⟩ (by decide)
  rw [wr_1] at this
  exact this
theorem k_readReplicas (hT : cutT I J R g n T) (hn : n ≤ 1000) (hg : ∀ k, k < n → g k < 256) (hi : i ≤ T) (h0 : I 83 0 = nI N) (hN : N < 10) : Wp L xs (d+2) 31 0 [some (.ref (72)), some (.ref (83))] [] (mk (rd I (i, 0)) J (rr R g n i) Z) P = P none (mk (rd (st I 83 (upd (I 83) 0 (I 69 (sA3 g n (N ≠ 0) i).1))) (sRep g n N i)) J (rr R g n (sRep g n N i).1) Z) := by
  have hTn := cutT_T hT
  have ok0 : okRs T (i, 0) := ⟨hi, by show 0 < 100000; omega⟩
  have w3 := fun P => k_wrong (L := L) (xs := xs) (d := d + 1) (P := P) (Z := Z) (k := 3) (s := (i, 0)) hT hn ok0 (by decide)
  have ok3 : okRs T (sA3 g n (N ≠ 0) i) := sA3_ok hT hn hi
  have e3 : Wp L xs (d+2) 31 0 [some (.ref (72)), some (.ref (83))] [] (mk (rd I (i, 0)) J (rr R g n i) Z) P = Wp L xs (d+2) 31 16 [some (.ref (72)), some (.ref (83))] [] (mk (rd I (sA3 g n (N ≠ 0) i)) J (rr R g n (sA3 g n (N ≠ 0) i).1) Z) P := by
    by_cases hz : N = 0
    · have av := fun P => k_advance (L := L) (xs := xs) (d := d + 1) (P := P) (Z := Z) (s := (i, 0)) hT hn ok0
      have e : sA3 g n (N ≠ 0) i = ad g n (i, 0) := by unfold sA3; rw [if_neg (by simp [hz])]
      rw [e]
      simp (discharger := omega) only [↓w31_0, ↓w31_1, ↓w31_4, ↓w31_7, ↓w31_8, ↓w31_9, ↓w31_12, ↓w31_13, ↓w31_17, ↓w31_20, ↓w31_23, ↓w31_24, ↓w31_27, ↓w31_28, ↓w31_29, ↓w31_32, ↓w31_33, ↓w31_36, ↓w31_39, ↓w31_40, ↓w31_43, ↓w31_44, ↓w31_45, ↓w31_48, ↓w31_49, ↓w31_50, ↓w31_53, ↓w31_54, ↓w31_55, ↓w31_56, ↓w31_57, ↓w31_60, ↓w31_63, ↓w31_64, ↓w31_66, ↓w31_69, rc72, g72_0, g72_1, g72_2, p72_2, g72_3, p72_3, g72_4, p72_4, g72_5, p72_5, rc83, g83_0, p83_0, g83_1, p83_1, g83_2, p83_2, g83_3, g83_4, g83_5, g83_6, g83_7, g83_8, rdo, h0, ↓av, ↓kc_i, ↓kc_l, ↓kc_r, ↓kc_n, mul8, mul8', mul4, mul4', nI_add, inT, nclN, ltT, ltF, leT, leF, eqT, eqF, nzF, m1F, m1T, shr, shg, bI0, bI1, bo_bI, bo_1, bo_0, eq10, eq00, frT1, frT2, frT3, fit0, fit1, fit2, fit3, true_and, and_true, ↓reduceIte, Nat.reduceAdd, Nat.reduceMul, and_self, not_false_eq_true, not_true_eq_false, Nat.zero_add, Nat.add_zero]
    · have av := fun P => k_advance (L := L) (xs := xs) (d := d + 1) (P := P) (Z := Z) (s := wr g n 3 (i, 0)) hT hn (wr_ok hn (by decide) ok0)
      have e : sA3 g n (N ≠ 0) i = ad g n (wr g n 3 (i, 0)) := by unfold sA3; rw [if_pos (by simp [hz])]
      rw [e]
      simp (discharger := omega) only [↓w31_0, ↓w31_1, ↓w31_4, ↓w31_7, ↓w31_8, ↓w31_9, ↓w31_12, ↓w31_13, ↓w31_17, ↓w31_20, ↓w31_23, ↓w31_24, ↓w31_27, ↓w31_28, ↓w31_29, ↓w31_32, ↓w31_33, ↓w31_36, ↓w31_39, ↓w31_40, ↓w31_43, ↓w31_44, ↓w31_45, ↓w31_48, ↓w31_49, ↓w31_50, ↓w31_53, ↓w31_54, ↓w31_55, ↓w31_56, ↓w31_57, ↓w31_60, ↓w31_63, ↓w31_64, ↓w31_66, ↓w31_69, rc72, g72_0, g72_1, g72_2, p72_2, g72_3, p72_3, g72_4, p72_4, g72_5, p72_5, rc83, g83_0, p83_0, g83_1, p83_1, g83_2, p83_2, g83_3, g83_4, g83_5, g83_6, g83_7, g83_8, rdo, h0, ↓w3, ↓av, ↓kc_i, ↓kc_l, ↓kc_r, ↓kc_n, mul8, mul8', mul4, mul4', nI_add, inT, nclN, ltT, ltF, leT, leF, eqT, eqF, nzF, m1F, m1T, shr, shg, bI0, bI1, bo_bI, bo_1, bo_0, eq10, eq00, frT1, frT2, frT3, fit0, fit1, fit2, fit3, true_and, and_true, ↓reduceIte, Nat.reduceAdd, Nat.reduceMul, and_self, not_false_eq_true, not_true_eq_false, Nat.zero_add, Nat.add_zero]
  rw [e3]
  unfold sRep
  generalize hs3 : sA3 g n (N ≠ 0) i = s at *
  obtain ⟨h67, -, -, h69, -, -⟩ := hT.2.2.1 s.1 ok3.1
  have h1 := ok3.1
  have hk4 := kd_4 (g := g) (n := n) (i := s.1)
  change I 67 s.1 = nI (cmk (kd g n s.1)) at h67
  change kd g n s.1 = 2 → I 69 s.1 = nI (vl g n s.1) at h69
  have e4 : Wp L xs (d+2) 31 16 [some (.ref (72)), some (.ref (83))] [] (mk (rd I s) J (rr R g n s.1) Z) P = Wp L xs (d+2) 31 53 [some (.ref (72)), some (.ref (83))] [] (mk (rd I (sA4 g n s)) J (rr R g n (sA4 g n s).1) Z) P := by
    have w4 := fun P => k_wrong (L := L) (xs := xs) (d := d + 1) (P := P) (Z := Z) (k := 4) hT hn ok3 (by decide)
    unfold sA4
    by_cases q1 : kd g n s.1 = 2
    · have hv := vl_lt q1
      have h69' := h69 q1
      by_cases q2 : vl g n s.1 = 4
      · rw [if_pos ⟨q1, q2⟩]
        simp (discharger := omega) only [↓w31_0, ↓w31_1, ↓w31_4, ↓w31_7, ↓w31_8, ↓w31_9, ↓w31_12, ↓w31_13, ↓w31_16, ↓w31_17, ↓w31_20, ↓w31_23, ↓w31_24, ↓w31_27, ↓w31_28, ↓w31_29, ↓w31_32, ↓w31_33, ↓w31_36, ↓w31_39, ↓w31_40, ↓w31_43, ↓w31_44, ↓w31_45, ↓w31_48, ↓w31_49, ↓w31_50, ↓w31_54, ↓w31_55, ↓w31_56, ↓w31_57, ↓w31_60, ↓w31_63, ↓w31_64, ↓w31_66, ↓w31_69, rc72, g72_0, g72_1, g72_2, p72_2, g72_3, p72_3, g72_4, p72_4, g72_5, p72_5, rc65, g65_0, g65_1, p65_1, g65_2, g65_3, g65_4, g65_5, g65_6, g65_7, p65_7, gi67, si67, gi69, si69, rd72_3, rdo, h67, h69', cmT2 q1, ↓w4, ↓kc_i, ↓kc_l, ↓kc_r, ↓kc_n, mul8, mul8', mul4, mul4', nI_add, inT, nclN, ltT, ltF, leT, leF, eqT, eqF, nzF, m1F, m1T, shr, shg, bI0, bI1, bo_bI, bo_1, bo_0, eq10, eq00, frT1, frT2, frT3, fit0, fit1, fit2, fit3, true_and, and_true, ↓reduceIte, Nat.reduceAdd, Nat.reduceMul, and_self, not_false_eq_true, not_true_eq_false, Nat.zero_add, Nat.add_zero]
      · rw [if_neg (fun z => q2 z.2)]
        simp (discharger := omega) only [↓w31_0, ↓w31_1, ↓w31_4, ↓w31_7, ↓w31_8, ↓w31_9, ↓w31_12, ↓w31_13, ↓w31_16, ↓w31_17, ↓w31_20, ↓w31_23, ↓w31_24, ↓w31_27, ↓w31_28, ↓w31_29, ↓w31_32, ↓w31_33, ↓w31_36, ↓w31_39, ↓w31_40, ↓w31_43, ↓w31_44, ↓w31_45, ↓w31_48, ↓w31_49, ↓w31_50, ↓w31_54, ↓w31_55, ↓w31_56, ↓w31_57, ↓w31_60, ↓w31_63, ↓w31_64, ↓w31_66, ↓w31_69, rc72, g72_0, g72_1, g72_2, p72_2, g72_3, p72_3, g72_4, p72_4, g72_5, p72_5, rc65, g65_0, g65_1, p65_1, g65_2, g65_3, g65_4, g65_5, g65_6, g65_7, p65_7, gi67, si67, gi69, si69, rd72_3, rdo, h67, h69', cmT2 q1, ↓kc_i, ↓kc_l, ↓kc_r, ↓kc_n, mul8, mul8', mul4, mul4', nI_add, inT, nclN, ltT, ltF, leT, leF, eqT, eqF, nzF, m1F, m1T, shr, shg, bI0, bI1, bo_bI, bo_1, bo_0, eq10, eq00, frT1, frT2, frT3, fit0, fit1, fit2, fit3, true_and, and_true, ↓reduceIte, Nat.reduceAdd, Nat.reduceMul, and_self, not_false_eq_true, not_true_eq_false, Nat.zero_add, Nat.add_zero]
    · rw [if_neg (fun z => q1 z.1)]
      simp (discharger := omega) only [↓w31_0, ↓w31_1, ↓w31_4, ↓w31_7, ↓w31_8, ↓w31_9, ↓w31_12, ↓w31_13, ↓w31_16, ↓w31_17, ↓w31_20, ↓w31_23, ↓w31_24, ↓w31_27, ↓w31_28, ↓w31_29, ↓w31_32, ↓w31_33, ↓w31_36, ↓w31_39, ↓w31_40, ↓w31_43, ↓w31_44, ↓w31_45, ↓w31_48, ↓w31_49, ↓w31_50, ↓w31_54, ↓w31_55, ↓w31_56, ↓w31_57, ↓w31_60, ↓w31_63, ↓w31_64, ↓w31_66, ↓w31_69, rc72, g72_0, g72_1, g72_2, p72_2, g72_3, p72_3, g72_4, p72_4, g72_5, p72_5, rc65, g65_0, g65_1, p65_1, g65_2, g65_3, g65_4, g65_5, g65_6, g65_7, p65_7, gi67, si67, gi69, si69, rd72_3, rdo, h67, cmF2 hk4 q1, ↓kc_i, ↓kc_l, ↓kc_r, ↓kc_n, mul8, mul8', mul4, mul4', nI_add, inT, nclN, ltT, ltF, leT, leF, eqT, eqF, nzF, m1F, m1T, shr, shg, bI0, bI1, bo_bI, bo_1, bo_0, eq10, eq00, frT1, frT2, frT3, fit0, fit1, fit2, fit3, true_and, and_true, ↓reduceIte, Nat.reduceAdd, Nat.reduceMul, and_self, not_false_eq_true, not_true_eq_false, Nat.zero_add, Nat.add_zero]
  rw [e4]
  have ok4 : okRs T (sA4 g n s) := sA4_ok hn ok3
  have e69 : I 69 s.1 = I 69 (sA4 g n s).1 := by rw [sA4_1]
  rw [e69]
  generalize sA4 g n s = s' at *
  have tn := fun P => k_takeNumber (L := L) (xs := xs) (d := d) (P := P) (Z := Z) (lo := 3) (hi := 6) (v := nI 5) hT hn ok4 (by decide) (by decide) (by decide)
  have ts := fun P => k_takeSign (L := L) (xs := xs) (d := d) (P := P) (Z := Z) (I := st I 83 (upd (I 83) 0 (I 69 s'.1))) (c := 59) (cutT_st (by decide) hT) hn (tkN_ok (lo := 3) (hi := 6) hT hn ok4) (by decide) hg
  simp (discharger := omega) only [↓w31_0, ↓w31_1, ↓w31_4, ↓w31_7, ↓w31_8, ↓w31_9, ↓w31_12, ↓w31_13, ↓w31_16, ↓w31_17, ↓w31_20, ↓w31_23, ↓w31_24, ↓w31_27, ↓w31_28, ↓w31_29, ↓w31_32, ↓w31_33, ↓w31_36, ↓w31_39, ↓w31_40, ↓w31_43, ↓w31_44, ↓w31_45, ↓w31_48, ↓w31_49, ↓w31_50, ↓w31_53, ↓w31_54, ↓w31_55, ↓w31_56, ↓w31_57, ↓w31_60, ↓w31_63, ↓w31_64, ↓w31_66, ↓w31_69, rc72, g72_0, g72_1, g72_2, p72_2, g72_3, p72_3, g72_4, p72_4, g72_5, p72_5, rc83, g83_0, p83_0, g83_1, p83_1, g83_2, p83_2, g83_3, g83_4, g83_5, g83_6, g83_7, g83_8, rdo, rd_st, ↓tn, ↓ts, ↓kc_i, ↓kc_l, ↓kc_r, ↓kc_n, mul8, mul8', mul4, mul4', nI_add, inT, nclN, ltT, ltF, leT, leF, eqT, eqF, nzF, m1F, m1T, shr, shg, bI0, bI1, bo_bI, bo_1, bo_0, eq10, eq00, frT1, frT2, frT3, fit0, fit1, fit2, fit3, true_and, and_true, ↓reduceIte, Nat.reduceAdd, Nat.reduceMul, and_self, not_false_eq_true, not_true_eq_false, Nat.zero_add, Nat.add_zero]
theorem k_readKeys (hT : cutT I J R g n T) (hn : n ≤ 1000) (hg : ∀ k, k < n → g k < 256) (hi : i ≤ T) (h0 : I 83 1 = nI K) (hK : K < 10) : Wp L xs (d+2) 32 0 [some (.ref (72)), some (.ref (83))] [] (mk (rd I (i, 0)) J (rr R g n i) Z) P = P none (mk (rd (st I 83 (upd (I 83) 1 (I 69 (sA3 g n (K ≠ 0) i).1))) (sKey g n K i)) J (rr R g n (sKey g n K i).1) Z) := by
  have ok0 : okRs T (i, 0) := ⟨hi, by show 0 < 100000; omega⟩
  have w3 := fun P => k_wrong (L := L) (xs := xs) (d := d + 1) (P := P) (Z := Z) (k := 3) (s := (i, 0)) hT hn ok0 (by decide)
  have ok3 : okRs T (sA3 g n (K ≠ 0) i) := sA3_ok hT hn hi
  have e3 : Wp L xs (d+2) 32 0 [some (.ref (72)), some (.ref (83))] [] (mk (rd I (i, 0)) J (rr R g n i) Z) P = Wp L xs (d+2) 32 16 [some (.ref (72)), some (.ref (83))] [] (mk (rd I (sA3 g n (K ≠ 0) i)) J (rr R g n (sA3 g n (K ≠ 0) i).1) Z) P := by
    by_cases hz : K = 0
    · have av := fun P => k_advance (L := L) (xs := xs) (d := d + 1) (P := P) (Z := Z) (s := (i, 0)) hT hn ok0
      have e : sA3 g n (K ≠ 0) i = ad g n (i, 0) := by unfold sA3; rw [if_neg (by simp [hz])]
      rw [e]
      simp (discharger := omega) only [↓w32_0, ↓w32_1, ↓w32_4, ↓w32_7, ↓w32_8, ↓w32_9, ↓w32_12, ↓w32_13, ↓w32_17, ↓w32_18, ↓w32_19, ↓w32_20, ↓w32_23, ↓w32_26, ↓w32_27, ↓w32_29, ↓w32_32, rc72, g72_0, g72_1, g72_2, p72_2, g72_3, p72_3, g72_4, p72_4, g72_5, p72_5, rc83, g83_0, p83_0, g83_1, p83_1, g83_2, p83_2, g83_3, g83_4, g83_5, g83_6, g83_7, g83_8, rdo, h0, ↓av, ↓kc_i, ↓kc_l, ↓kc_r, ↓kc_n, mul8, mul8', mul4, mul4', nI_add, inT, nclN, ltT, ltF, leT, leF, eqT, eqF, nzF, m1F, m1T, shr, shg, bI0, bI1, bo_bI, bo_1, bo_0, eq10, eq00, frT1, frT2, frT3, fit0, fit1, fit2, fit3, true_and, and_true, ↓reduceIte, Nat.reduceAdd, Nat.reduceMul, and_self, not_false_eq_true, not_true_eq_false, Nat.zero_add, Nat.add_zero]
    · have av := fun P => k_advance (L := L) (xs := xs) (d := d + 1) (P := P) (Z := Z) (s := wr g n 3 (i, 0)) hT hn (wr_ok hn (by decide) ok0)
      have e : sA3 g n (K ≠ 0) i = ad g n (wr g n 3 (i, 0)) := by unfold sA3; rw [if_pos (by simp [hz])]
      rw [e]
      simp (discharger := omega) only [↓w32_0, ↓w32_1, ↓w32_4, ↓w32_7, ↓w32_8, ↓w32_9, ↓w32_12, ↓w32_13, ↓w32_17, ↓w32_18, ↓w32_19, ↓w32_20, ↓w32_23, ↓w32_26, ↓w32_27, ↓w32_29, ↓w32_32, rc72, g72_0, g72_1, g72_2, p72_2, g72_3, p72_3, g72_4, p72_4, g72_5, p72_5, rc83, g83_0, p83_0, g83_1, p83_1, g83_2, p83_2, g83_3, g83_4, g83_5, g83_6, g83_7, g83_8, rdo, h0, ↓w3, ↓av, ↓kc_i, ↓kc_l, ↓kc_r, ↓kc_n, mul8, mul8', mul4, mul4', nI_add, inT, nclN, ltT, ltF, leT, leF, eqT, eqF, nzF, m1F, m1T, shr, shg, bI0, bI1, bo_bI, bo_1, bo_0, eq10, eq00, frT1, frT2, frT3, fit0, fit1, fit2, fit3, true_and, and_true, ↓reduceIte, Nat.reduceAdd, Nat.reduceMul, and_self, not_false_eq_true, not_true_eq_false, Nat.zero_add, Nat.add_zero]
  rw [e3]
  unfold sKey
  generalize hs3 : sA3 g n (K ≠ 0) i = s' at *
  have tn := fun P => k_takeNumber (L := L) (xs := xs) (d := d) (P := P) (Z := Z) (lo := 1) (hi := 5) (v := nI 4) hT hn ok3 (by decide) (by decide) (by decide)
  have ts := fun P => k_takeSign (L := L) (xs := xs) (d := d) (P := P) (Z := Z) (I := st I 83 (upd (I 83) 1 (I 69 s'.1))) (c := 59) (cutT_st (by decide) hT) hn (tkN_ok (lo := 1) (hi := 5) hT hn ok3) (by decide) hg
  simp (discharger := omega) only [↓w32_0, ↓w32_1, ↓w32_4, ↓w32_7, ↓w32_8, ↓w32_9, ↓w32_12, ↓w32_13, ↓w32_16, ↓w32_17, ↓w32_18, ↓w32_19, ↓w32_20, ↓w32_23, ↓w32_26, ↓w32_27, ↓w32_29, ↓w32_32, rc72, g72_0, g72_1, g72_2, p72_2, g72_3, p72_3, g72_4, p72_4, g72_5, p72_5, rc83, g83_0, p83_0, g83_1, p83_1, g83_2, p83_2, g83_3, g83_4, g83_5, g83_6, g83_7, g83_8, rdo, rd_st, ↓tn, ↓ts, ↓kc_i, ↓kc_l, ↓kc_r, ↓kc_n, mul8, mul8', mul4, mul4', nI_add, inT, nclN, ltT, ltF, leT, leF, eqT, eqF, nzF, m1F, m1T, shr, shg, bI0, bI1, bo_bI, bo_1, bo_0, eq10, eq00, frT1, frT2, frT3, fit0, fit1, fit2, fit3, true_and, and_true, ↓reduceIte, Nat.reduceAdd, Nat.reduceMul, and_self, not_false_eq_true, not_true_eq_false, Nat.zero_add, Nat.add_zero]
theorem oN_mi {o : Option Nat} (h : ∀ j, o = some j → j < 8) : (oN o = -1) = (o.isSome = false) := by
  cases o with
  | none => simp [oN]
  | some j =>
    have := h j rfl
    simp only [oN, Option.isSome_some, Bool.true_eq_false, eq_iff_iff, iff_false]
    intro z; rw [m1F (by omega)] at z; exact z
theorem k_takeNewName (hT : cutT I J R g n T) (hn : n ≤ 1000) (hs : okRs T s) (hM : I 83 2 = nI M) (hM8 : M < 8) : Wp L xs (d+1) 39 0 [some (.ref (72)), some (.ref (83)), some (.int (nI M))] [] (mk (rd I s) J (rr R g n s.1) Z) P = P none (mk (rd I (tkNN g n (fndN (J 89) M (J 70 s.1)) s)) (st J 89 (vp_updL (J 89) M (J 70 s.1))) (rr R g n (tkNN g n (fndN (J 89) M (J 70 s.1)) s).1) Z) := by
  have hTn := cutT_T hT
  have h1 := hs.1
  have hG : isG 83 := isG_83
  have nm := fun P => k_isName (L := L) (xs := xs) (d := d) (P := P) (Z := Z) hT hn hs
  have cn := fun P => k_commandNamed (L := L) (xs := xs) (d := d) (P := P) (I := rd I s) (J := J) (R := rr R g n s.1) (Z := Z) (y := J 70 s.1) hG (show rd I s 83 2 = nI M by rw [rdo (by decide), hM]) (by omega)
  have w1 := fun P => k_wrong (L := L) (xs := xs) (d := d) (P := P) (Z := Z) (k := 1) hT hn hs (by decide)
  have w3 := fun P => k_wrong (L := L) (xs := xs) (d := d) (P := P) (Z := Z) (k := 3) hT hn hs (by decide)
  have hT2 : cutT I (st J 89 (vp_updL (J 89) M (J 70 s.1))) R g n T := cutT_sJ (by decide) hT
  have a1 := fun P => k_advance (L := L) (xs := xs) (d := d) (P := P) (Z := Z) hT2 hn (wr_ok (g := g) (k := 1) hn (by decide) hs)
  have a3 := fun P => k_advance (L := L) (xs := xs) (d := d) (P := P) (Z := Z) hT2 hn (wr_ok (g := g) (k := 3) hn (by decide) hs)
  have a0 := fun P => k_advance (L := L) (xs := xs) (d := d) (P := P) (Z := Z) hT2 hn hs
  have hr3 : ∀ k, rd I (wr g n k s) 72 3 = nI s.1 := fun k => by rw [rd72_3, wr_1]
  have hff : ∀ j, ff M (fun c => decide (J 89 c = J 70 s.1)) = some j → j < 8 := fun j h => by have := (ff_some.mp h).1; omega
  have om := oN_mi hff
  have hfe : fndN (J 89) M (J 70 s.1) = (ff M (fun c => decide (J 89 c = J 70 s.1))).isSome := rfl
  rw [← hfe] at om
  change ∀ P : Option Value → Hp → Prop, _ = P (some (.int (oN (ff M (fun c => decide (J 89 c = J 70 s.1)))))) _ at cn
  generalize oN (ff M (fun c => decide (J 89 c = J 70 s.1))) = o at *
  unfold tkNN
  cases hq : isNm g n s.1
  · rw [if_neg (by decide)]
    simp (discharger := omega) only [↓w39_0, ↓w39_1, ↓w39_4, ↓w39_7, ↓w39_8, ↓w39_9, ↓w39_12, ↓w39_15, ↓w39_16, ↓w39_17, ↓w39_20, ↓w39_23, ↓w39_24, ↓w39_27, ↓w39_28, ↓w39_31, ↓w39_32, ↓w39_35, ↓w39_36, ↓w39_37, ↓w39_40, ↓w39_41, ↓w39_44, ↓w39_45, ↓w39_46, ↓w39_49, ↓w39_52, ↓w39_53, ↓w39_56, ↓w39_57, ↓w39_58, ↓w39_59, ↓w39_62, rc72, g72_0, g72_1, g72_2, p72_2, g72_3, p72_3, g72_4, p72_4, g72_5, p72_5, rc65, g65_0, g65_1, p65_1, g65_2, g65_3, g65_4, g65_5, g65_6, g65_7, p65_7, gl70, sl70, rc83, g83_0, p83_0, g83_1, p83_1, g83_2, p83_2, g83_3, g83_4, g83_5, g83_6, g83_7, g83_8, gl89, sl89, rd72_3, hr3, ↓nm, hq, bI_f, ↓w1, ↓a1, ↓kc_i, ↓kc_l, ↓kc_r, ↓kc_n, mul8, mul8', mul4, mul4', nI_add, inT, nclN, ltT, ltF, leT, leF, eqT, eqF, nzF, m1F, m1T, shr, shg, bI0, bI1, bo_bI, bo_1, bo_0, eq10, eq00, frT1, frT2, frT3, fit0, fit1, fit2, fit3, true_and, and_true, ↓reduceIte, Nat.reduceAdd, Nat.reduceMul, and_self, not_false_eq_true, not_true_eq_false, Nat.zero_add, Nat.add_zero]
  · rw [if_pos rfl]
    cases hf : fndN (J 89) M (J 70 s.1)
    · rw [hf] at om
      rw [if_neg (by decide)]
      simp (discharger := omega) only [↓w39_0, ↓w39_1, ↓w39_4, ↓w39_7, ↓w39_8, ↓w39_9, ↓w39_12, ↓w39_15, ↓w39_16, ↓w39_17, ↓w39_20, ↓w39_23, ↓w39_24, ↓w39_27, ↓w39_28, ↓w39_31, ↓w39_32, ↓w39_35, ↓w39_36, ↓w39_37, ↓w39_40, ↓w39_41, ↓w39_44, ↓w39_45, ↓w39_46, ↓w39_49, ↓w39_52, ↓w39_53, ↓w39_56, ↓w39_57, ↓w39_58, ↓w39_59, ↓w39_62, rc72, g72_0, g72_1, g72_2, p72_2, g72_3, p72_3, g72_4, p72_4, g72_5, p72_5, rc65, g65_0, g65_1, p65_1, g65_2, g65_3, g65_4, g65_5, g65_6, g65_7, p65_7, gl70, sl70, rc83, g83_0, p83_0, g83_1, p83_1, g83_2, p83_2, g83_3, g83_4, g83_5, g83_6, g83_7, g83_8, gl89, sl89, rd72_3, hr3, ↓nm, hq, bI_t, ↓cn, om, ↓a0, ↓kc_i, ↓kc_l, ↓kc_r, ↓kc_n, mul8, mul8', mul4, mul4', nI_add, inT, nclN, ltT, ltF, leT, leF, eqT, eqF, nzF, m1F, m1T, shr, shg, bI0, bI1, bo_bI, bo_1, bo_0, eq10, eq00, frT1, frT2, frT3, fit0, fit1, fit2, fit3, true_and, and_true, ↓reduceIte, Nat.reduceAdd, Nat.reduceMul, and_self, not_false_eq_true, not_true_eq_false, Nat.zero_add, Nat.add_zero]
    · rw [hf] at om
      rw [if_pos rfl]
      simp (discharger := omega) only [↓w39_0, ↓w39_1, ↓w39_4, ↓w39_7, ↓w39_8, ↓w39_9, ↓w39_12, ↓w39_15, ↓w39_16, ↓w39_17, ↓w39_20, ↓w39_23, ↓w39_24, ↓w39_27, ↓w39_28, ↓w39_31, ↓w39_32, ↓w39_35, ↓w39_36, ↓w39_37, ↓w39_40, ↓w39_41, ↓w39_44, ↓w39_45, ↓w39_46, ↓w39_49, ↓w39_52, ↓w39_53, ↓w39_56, ↓w39_57, ↓w39_58, ↓w39_59, ↓w39_62, rc72, g72_0, g72_1, g72_2, p72_2, g72_3, p72_3, g72_4, p72_4, g72_5, p72_5, rc65, g65_0, g65_1, p65_1, g65_2, g65_3, g65_4, g65_5, g65_6, g65_7, p65_7, gl70, sl70, rc83, g83_0, p83_0, g83_1, p83_1, g83_2, p83_2, g83_3, g83_4, g83_5, g83_6, g83_7, g83_8, gl89, sl89, rd72_3, hr3, ↓nm, hq, bI_t, ↓cn, om, ↓w3, ↓a3, reduceCtorEq, ↓kc_i, ↓kc_l, ↓kc_r, ↓kc_n, mul8, mul8', mul4, mul4', nI_add, inT, nclN, ltT, ltF, leT, leF, eqT, eqF, nzF, m1F, m1T, shr, shg, bI0, bI1, bo_bI, bo_1, bo_0, eq10, eq00, frT1, frT2, frT3, fit0, fit1, fit2, fit3, true_and, and_true, ↓reduceIte, Nat.reduceAdd, Nat.reduceMul, and_self, not_false_eq_true, not_true_eq_false, Nat.zero_add, Nat.add_zero]
/-- the memory behind a command read -/
def cmI (I : Mi) (g : Nat → Nat) (n K M : Nat) (f : Bool) (i : Nat) : Mi := st (st (st (st (st I 84 (upd (I 84) M (wNu (wd g n (sC2 g n f i).1)))) 85 (upd (I 85) M (I 69 (sC4 g n f i).1))) 86 (upd (I 86) M (I 69 (sC6 g n K f i).1))) 87 (upd (I 87) M (I 69 (sC8 g n K f i).1))) 83 (upd (I 83) 2 (nI (M + 1)))
theorem k_readCommand (hT : cutT I J R g n T) (hn : n ≤ 1000) (hg : ∀ k, k < n → g k < 256) (hi : i ≤ T) (h0 : I 83 0 = nI N) (h1 : I 83 1 = nI K) (h2 : I 83 2 = nI M) (hN : N < 10) (hK : K < 10) (hM : M < 8) (hf : f = fndN (J 89) M (J 70 (sC1 g n i).1)) : Wp L xs (d+2) 33 0 [some (.ref (72)), some (.ref (83)), none] [] (mk (rd I (i, 0)) J (rr R g n i) Z) P = P none (mk (rd (cmI I g n K M f i) (sCmd g n N K M f i)) (st J 89 (vp_updL (J 89) M (J 70 (sC1 g n i).1))) (rr R g n (sCmd g n N K M f i).1) Z) := by
  have ok0 : okRs T (i, 0) := ⟨hi, by show 0 < 100000; omega⟩
  have av := fun P => k_advance (L := L) (xs := xs) (d := d + 1) (P := P) (Z := Z) (s := (i, 0)) hT hn ok0
  have ok1 : okRs T (sC1 g n i) := ad_ok hT ok0
  have hc : sCmd g n N K M f i = tkS g n 59 (tkN g n 0 N (sC8 g n K f i)) := if_neg (by omega)
  have tnn := fun P => k_takeNewName (L := L) (xs := xs) (d := d) (P := P) (Z := Z) hT hn ok1 h2 hM
  rw [← hf] at tnn
  have ok2 : okRs T (sC2 g n f i) := tkNN_ok hT hn ok1
  have hT2 : cutT I (st J 89 (vp_updL (J 89) M (J 70 (sC1 g n i).1))) R g n T := cutT_sJ (by decide) hT
  unfold cmI
  generalize st J 89 (vp_updL (J 89) M (J 70 (sC1 g n i).1)) = J2 at *
  have tkk := fun P => k_takeKind (L := L) (xs := xs) (d := d) (P := P) (Z := Z) hT2 hn ok2
  have ok3 : okRs T (tkK g n (sC2 g n f i)) := tkK_ok hT2 hn ok2
  have hT3 := cutT_st (a := 84) (φ := upd (I 84) M (wNu (wd g n (sC2 g n f i).1))) (by decide) hT2
  have v1 : ∀ φ, st I 84 φ 83 1 = nI K := fun φ => by rw [st_ne (by decide), h1]
  have v69 : ∀ φ, st I 84 φ 69 = I 69 := fun φ => by rw [st_ne (by decide)]
  have tw3 := fun P => k_takeWord (L := L) (xs := xs) (d := d) (P := P) (Z := Z) (w := 3) hT3 hn ok3 (by decide)
  have ok4 : okRs T (sC4 g n f i) := tkW_ok hT2 hn ok3
  have tn5 := fun P => k_takeNumber (L := L) (xs := xs) (d := d) (P := P) (Z := Z) (lo := 0) (hi := K) (v := nI K - nI 1) hT3 hn ok4 (by decide) (by omega) rfl
  have ok5 : okRs T (tkN g n 0 K (sC4 g n f i)) := tkN_ok hT2 hn ok4
  rw [v69] at tn5
  have hT4 := cutT_st (a := 85) (φ := upd (I 85) M (I 69 (sC4 g n f i).1)) (by decide) hT3
  have tw4 := fun P => k_takeWord (L := L) (xs := xs) (d := d) (P := P) (Z := Z) (w := 4) hT4 hn ok5 (by decide)
  have ok6 : okRs T (sC6 g n K f i) := tkW_ok hT2 hn ok5
  have tn7 := fun P => k_takeNumber (L := L) (xs := xs) (d := d) (P := P) (Z := Z) (lo := 0) (hi := 100) (v := nI 99) hT4 hn ok6 (by decide) (by decide) (by decide)
  have ok7 : okRs T (tkN g n 0 100 (sC6 g n K f i)) := tkN_ok hT2 hn ok6
  rw [st_ne (by decide), v69] at tn7
  have hT5 := cutT_st (a := 86) (φ := upd (I 86) M (I 69 (sC6 g n K f i).1)) (by decide) hT4
  have tw5 := fun P => k_takeWord (L := L) (xs := xs) (d := d) (P := P) (Z := Z) (w := 5) hT5 hn ok7 (by decide)
  have ok8 : okRs T (sC8 g n K f i) := tkW_ok hT2 hn ok7
  have tn9 := fun P => k_takeNumber (L := L) (xs := xs) (d := d) (P := P) (Z := Z) (lo := 0) (hi := N) (v := nI N - nI 1) hT5 hn ok8 (by decide) (by omega) rfl
  have ok9 : okRs T (tkN g n 0 N (sC8 g n K f i)) := tkN_ok hT2 hn ok8
  rw [st_ne (by decide), st_ne (by decide), v69] at tn9
  have hT6 := cutT_st (a := 87) (φ := upd (I 87) M (I 69 (sC8 g n K f i).1)) (by decide) hT5
  have ts := fun P => k_takeSign (L := L) (xs := xs) (d := d) (P := P) (Z := Z) (c := 59) hT6 hn ok9 (by decide) hg
  rw [hc]
  change ∀ P : Option Value → Hp → Prop, _ = P none (mk (rd I (sC1 g n i)) J (rr R g n (sC1 g n i).1) Z) at av
  change ∀ P : Option Value → Hp → Prop, _ = P none (mk (rd I (sC2 g n f i)) J2 (rr R g n (sC2 g n f i).1) Z) at tnn
  change ∀ P : Option Value → Hp → Prop, _ = P none (mk (rd _ (sC4 g n f i)) J2 (rr R g n (sC4 g n f i).1) Z) at tw3
  change ∀ P : Option Value → Hp → Prop, _ = P none (mk (rd _ (sC6 g n K f i)) J2 (rr R g n (sC6 g n K f i).1) Z) at tw4
  change ∀ P : Option Value → Hp → Prop, _ = P none (mk (rd _ (sC8 g n K f i)) J2 (rr R g n (sC8 g n K f i).1) Z) at tw5
  simp (discharger := omega) only [↓w33_0, ↓w33_1, ↓w33_4, ↓w33_5, ↓w33_6, ↓w33_8, ↓w33_11, ↓w33_12, ↓w33_13, ↓w33_16, ↓w33_17, ↓w33_18, ↓w33_21, ↓w33_22, ↓w33_23, ↓w33_24, ↓w33_27, ↓w33_28, ↓w33_31, ↓w33_32, ↓w33_33, ↓w33_36, ↓w33_37, ↓w33_38, ↓w33_41, ↓w33_44, ↓w33_45, ↓w33_48, ↓w33_49, ↓w33_50, ↓w33_51, ↓w33_52, ↓w33_55, ↓w33_56, ↓w33_57, ↓w33_60, ↓w33_61, ↓w33_62, ↓w33_65, ↓w33_68, ↓w33_69, ↓w33_72, ↓w33_73, ↓w33_74, ↓w33_75, ↓w33_77, ↓w33_80, ↓w33_81, ↓w33_82, ↓w33_85, ↓w33_88, ↓w33_89, ↓w33_92, ↓w33_93, ↓w33_94, ↓w33_95, ↓w33_96, ↓w33_99, ↓w33_100, ↓w33_101, ↓w33_104, ↓w33_105, ↓w33_106, ↓w33_108, ↓w33_111, ↓w33_112, ↓w33_113, ↓w33_116, ↓w33_117, ↓w33_118, ↓w33_121, rc72, g72_0, g72_1, g72_2, p72_2, g72_3, p72_3, g72_4, p72_4, g72_5, p72_5, rc83, g83_0, p83_0, g83_1, p83_1, g83_2, p83_2, g83_3, g83_4, g83_5, g83_6, g83_7, g83_8, gi84, si84, gi85, si85, gi86, si86, gi87, si87, rdo, rd_st, st_ne, h0, h1, h2, ↓av, ↓tnn, ↓tkk, ↓tw3, ↓tn5, ↓tw4, ↓tn7, ↓tw5, ↓tn9, ↓ts, ↓kc_i, ↓kc_l, ↓kc_r, ↓kc_n, mul8, mul8', mul4, mul4', nI_add, inT, nclN, ltT, ltF, leT, leF, eqT, eqF, nzF, m1F, m1T, shr, shg, bI0, bI1, bo_bI, bo_1, bo_0, eq10, eq00, frT1, frT2, frT3, fit0, fit1, fit2, fit3, true_and, and_true, ↓reduceIte, Nat.reduceAdd, Nat.reduceMul, and_self, not_false_eq_true, not_true_eq_false, Nat.zero_add, Nat.add_zero]
theorem k_readCommand8 (hT : cutT I J R g n T) (hn : n ≤ 1000) (hi : i ≤ T) (h2 : I 83 2 = nI 8) : Wp L xs (d+2) 33 0 [some (.ref (72)), some (.ref (83)), none] [] (mk (rd I (i, 0)) J (rr R g n i) Z) P = P none (mk (rd I (sCmd g n N K 8 f i)) J (rr R g n (sCmd g n N K 8 f i).1) Z) := by
  have ok0 : okRs T (i, 0) := ⟨hi, by show 0 < 100000; omega⟩
  have w5 := fun P => k_wrong (L := L) (xs := xs) (d := d + 1) (P := P) (Z := Z) (k := 5) (s := (i, 0)) hT hn ok0 (by decide)
  have hc : sCmd g n N K 8 f i = wr g n 5 (i, 0) := if_pos (by decide)
  rw [hc]
  simp (discharger := omega) only [↓w33_0, ↓w33_1, ↓w33_4, ↓w33_5, ↓w33_6, ↓w33_8, ↓w33_11, ↓w33_12, ↓w33_13, ↓w33_16, ↓w33_17, ↓w33_18, ↓w33_21, ↓w33_22, ↓w33_23, ↓w33_24, ↓w33_27, ↓w33_28, ↓w33_31, ↓w33_32, ↓w33_33, ↓w33_36, ↓w33_37, ↓w33_38, ↓w33_41, ↓w33_44, ↓w33_45, ↓w33_48, ↓w33_49, ↓w33_50, ↓w33_51, ↓w33_52, ↓w33_55, ↓w33_56, ↓w33_57, ↓w33_60, ↓w33_61, ↓w33_62, ↓w33_65, ↓w33_68, ↓w33_69, ↓w33_72, ↓w33_73, ↓w33_74, ↓w33_75, ↓w33_77, ↓w33_80, ↓w33_81, ↓w33_82, ↓w33_85, ↓w33_88, ↓w33_89, ↓w33_92, ↓w33_93, ↓w33_94, ↓w33_95, ↓w33_96, ↓w33_99, ↓w33_100, ↓w33_101, ↓w33_104, ↓w33_105, ↓w33_106, ↓w33_108, ↓w33_111, ↓w33_112, ↓w33_113, ↓w33_116, ↓w33_117, ↓w33_118, ↓w33_121, rc72, g72_0, g72_1, g72_2, p72_2, g72_3, p72_3, g72_4, p72_4, g72_5, p72_5, rc83, g83_0, p83_0, g83_1, p83_1, g83_2, p83_2, g83_3, g83_4, g83_5, g83_6, g83_7, g83_8, rdo, h2, ↓w5, ↓kc_i, ↓kc_l, ↓kc_r, ↓kc_n, mul8, mul8', mul4, mul4', nI_add, inT, nclN, ltT, ltF, leT, leF, eqT, eqF, nzF, m1F, m1T, shr, shg, bI0, bI1, bo_bI, bo_1, bo_0, eq10, eq00, frT1, frT2, frT3, fit0, fit1, fit2, fit3, true_and, and_true, ↓reduceIte, Nat.reduceAdd, Nat.reduceMul, and_self, not_false_eq_true, not_true_eq_false, Nat.zero_add, Nat.add_zero]
theorem k_partF (hT : cutT I J R g n T) (hn : n ≤ 1000) (hg : ∀ k, k < n → g k < 256) (hs : okRs T s) (hf : s.2 ≠ 0) (hdep : dep ≤ 5) : Wp L xs (d+1) 37 0 [some (.ref (72)), some (.int (nI dep)), none, none, none] [] (mk (rd I s) J (rr R g n s.1) Z) P = P none (mk (rd I s) J (rr R g n s.1) Z) := by
  have hTn := cutT_T hT
  have hi := hs.1
  have hs2 := hs.2
  have h67 : I 67 s.1 = nI (cmk (kd g n s.1)) := (hT.2.2.1 s.1 hi).1
  have hk4 := kd_4 (g := g) (n := n) (i := s.1)
  have hw := wd_lt (g := g) (n := n) (i := s.1)
  have gd : (rr R g n s.1 72 4).getD 29 = wd g n s.1 := by rw [rr72]; rfl
  have r26 := fun l0 l1 l2 l3 l4 P => w37_26 (L := L) (xs := xs) (d := d + 1) (h := mk (rd I s) J (rr R g n s.1) Z) (P := P) (l0 := l0) (l1 := l1) (l2 := l2) (l3 := l3) (l4 := l4) (wdA hw) hw
  have sg := fun P => k_isSign (L := L) (xs := xs) (d := d) (P := P) (Z := Z) (c := 40) hT hn hs (by decide) hg
  have w1 := fun P => k_wrong (L := L) (xs := xs) (d := d) (P := P) (Z := Z) (k := 1) hT hn hs (by decide)
  have w5 := fun P => k_wrong (L := L) (xs := xs) (d := d) (P := P) (Z := Z) (k := 5) hT hn hs (by decide)
  rw [wr_f hf] at w1 w5
  have f0 : (nI s.2 = nI 0) = False := eqF hf (by omega) (by decide)
  have fcE : ((wdv (wd g n s.1)).2.1 = nI 3) = (isFc g n s.1 = true) := by unfold isFc wSo; simp
  have e86 : ∀ l2 l3 l4, Wp L xs (d+1) 37 86 [some (.ref (72)), some (.int (nI dep)), some (.int l2), some (.int l3), some (.int l4)] [] (mk (rd I s) J (rr R g n s.1) Z) P = P none (mk (rd I s) J (rr R g n s.1) Z) := by
    intro l2 l3 l4
    by_cases h5 : dep < 5
    · simp (discharger := omega) only [↓w37_0, ↓w37_1, ↓w37_4, ↓w37_7, ↓w37_8, ↓w37_11, ↓w37_12, ↓w37_13, ↓w37_16, ↓w37_17, ↓w37_20, ↓w37_21, ↓w37_22, ↓w37_23, ↓w37_29, ↓w37_30, ↓w37_33, ↓w37_34, ↓w37_37, ↓w37_38, ↓w37_39, ↓w37_40, ↓w37_43, ↓w37_46, ↓w37_49, ↓w37_50, ↓w37_53, ↓w37_54, ↓w37_56, ↓w37_57, ↓w37_60, ↓w37_61, ↓w37_64, ↓w37_66, ↓w37_69, ↓w37_70, ↓w37_72, ↓w37_75, ↓w37_78, ↓w37_79, ↓w37_80, ↓w37_83, ↓w37_86, ↓w37_87, ↓w37_88, ↓w37_91, ↓w37_92, ↓w37_93, ↓w37_96, ↓w37_97, ↓w37_100, ↓w37_103, ↓w37_104, ↓w37_105, ↓w37_108, ↓w37_109, ↓w37_112, ↓w37_113, ↓w37_116, ↓w37_117, ↓w37_120, ↓w37_121, ↓w37_124, ↓w37_127, ↓w37_128, ↓w37_131, ↓w37_132, ↓w37_135, ↓w37_136, ↓w37_142, ↓w37_145, ↓w37_146, ↓w37_149, ↓w37_150, ↓w37_151, ↓w37_154, ↓w37_156, ↓w37_159, ↓w37_160, ↓w37_161, ↓w37_162, ↓w37_163, ↓w37_166, ↓w37_167, ↓w37_170, ↓w37_172, ↓w37_175, ↓w37_178, ↓w37_179, ↓w37_180, ↓w37_181, ↓w37_182, ↓w37_183, ↓w37_186, ↓w37_187, ↓w37_189, ↓w37_192, rc72, g72_0, g72_1, g72_2, p72_2, g72_3, p72_3, g72_4, p72_4, g72_5, p72_5, rd72_5, f0, ↓kc_i, ↓kc_l, ↓kc_r, ↓kc_n, mul8, mul8', mul4, mul4', nI_add, inT, nclN, ltT, ltF, leT, leF, eqT, eqF, nzF, m1F, m1T, shr, shg, bI0, bI1, bo_bI, bo_1, bo_0, eq10, eq00, frT1, frT2, frT3, fit0, fit1, fit2, fit3, true_and, and_true, ↓reduceIte, Nat.reduceAdd, Nat.reduceMul, and_self, not_false_eq_true, not_true_eq_false, Nat.zero_add, Nat.add_zero]
    · simp (discharger := omega) only [↓w37_0, ↓w37_1, ↓w37_4, ↓w37_7, ↓w37_8, ↓w37_11, ↓w37_12, ↓w37_13, ↓w37_16, ↓w37_17, ↓w37_20, ↓w37_21, ↓w37_22, ↓w37_23, ↓w37_29, ↓w37_30, ↓w37_33, ↓w37_34, ↓w37_37, ↓w37_38, ↓w37_39, ↓w37_40, ↓w37_43, ↓w37_46, ↓w37_49, ↓w37_50, ↓w37_53, ↓w37_54, ↓w37_56, ↓w37_57, ↓w37_60, ↓w37_61, ↓w37_64, ↓w37_66, ↓w37_69, ↓w37_70, ↓w37_72, ↓w37_75, ↓w37_78, ↓w37_79, ↓w37_80, ↓w37_83, ↓w37_86, ↓w37_87, ↓w37_88, ↓w37_91, ↓w37_92, ↓w37_93, ↓w37_96, ↓w37_97, ↓w37_100, ↓w37_103, ↓w37_104, ↓w37_105, ↓w37_108, ↓w37_109, ↓w37_112, ↓w37_113, ↓w37_116, ↓w37_117, ↓w37_120, ↓w37_121, ↓w37_124, ↓w37_127, ↓w37_128, ↓w37_131, ↓w37_132, ↓w37_135, ↓w37_136, ↓w37_142, ↓w37_145, ↓w37_146, ↓w37_149, ↓w37_150, ↓w37_151, ↓w37_154, ↓w37_156, ↓w37_159, ↓w37_160, ↓w37_161, ↓w37_162, ↓w37_163, ↓w37_166, ↓w37_167, ↓w37_170, ↓w37_172, ↓w37_175, ↓w37_178, ↓w37_179, ↓w37_180, ↓w37_181, ↓w37_182, ↓w37_183, ↓w37_186, ↓w37_187, ↓w37_189, ↓w37_192, rc72, g72_0, g72_1, g72_2, p72_2, g72_3, p72_3, g72_4, p72_4, g72_5, p72_5, rd72_5, f0, ↓w5, ↓kc_i, ↓kc_l, ↓kc_r, ↓kc_n, mul8, mul8', mul4, mul4', nI_add, inT, nclN, ltT, ltF, leT, leF, eqT, eqF, nzF, m1F, m1T, shr, shg, bI0, bI1, bo_bI, bo_1, bo_0, eq10, eq00, frT1, frT2, frT3, fit0, fit1, fit2, fit3, true_and, and_true, ↓reduceIte, Nat.reduceAdd, Nat.reduceMul, and_self, not_false_eq_true, not_true_eq_false, Nat.zero_add, Nat.add_zero]
  by_cases q1 : kd g n s.1 = 2
  · cases q2 : isFc g n s.1 <;> by_cases q3 : wd g n s.1 = 7 <;> simp (discharger := omega) only [↓w37_0, ↓w37_1, ↓w37_4, ↓w37_7, ↓w37_8, ↓w37_11, ↓w37_12, ↓w37_13, ↓w37_16, ↓w37_17, ↓w37_20, ↓w37_21, ↓w37_22, ↓w37_23, ↓w37_29, ↓w37_30, ↓w37_33, ↓w37_34, ↓w37_37, ↓w37_38, ↓w37_39, ↓w37_40, ↓w37_43, ↓w37_46, ↓w37_49, ↓w37_50, ↓w37_53, ↓w37_54, ↓w37_56, ↓w37_57, ↓w37_60, ↓w37_61, ↓w37_64, ↓w37_66, ↓w37_69, ↓w37_70, ↓w37_72, ↓w37_75, ↓w37_78, ↓w37_79, ↓w37_80, ↓w37_83, ↓w37_87, ↓w37_88, ↓w37_91, ↓w37_92, ↓w37_93, ↓w37_96, ↓w37_97, ↓w37_100, ↓w37_103, ↓w37_104, ↓w37_105, ↓w37_108, ↓w37_109, ↓w37_112, ↓w37_113, ↓w37_116, ↓w37_117, ↓w37_120, ↓w37_121, ↓w37_124, ↓w37_127, ↓w37_128, ↓w37_131, ↓w37_132, ↓w37_135, ↓w37_136, ↓w37_142, ↓w37_145, ↓w37_146, ↓w37_149, ↓w37_150, ↓w37_151, ↓w37_154, ↓w37_156, ↓w37_159, ↓w37_160, ↓w37_161, ↓w37_162, ↓w37_163, ↓w37_166, ↓w37_167, ↓w37_170, ↓w37_172, ↓w37_175, ↓w37_178, ↓w37_179, ↓w37_180, ↓w37_181, ↓w37_182, ↓w37_183, ↓w37_186, ↓w37_187, ↓w37_189, ↓w37_192, rc72, g72_0, g72_1, g72_2, p72_2, g72_3, p72_3, g72_4, p72_4, g72_5, p72_5, rc65, g65_0, g65_1, p65_1, g65_2, g65_3, g65_4, g65_5, g65_6, g65_7, p65_7, gi67, si67, rd72_3, rdo, h67, cmT2 q1, gd, ↓r26, wv1, fcE, q2, acT, acF, ↓e86, reduceCtorEq, ↓kc_i, ↓kc_l, ↓kc_r, ↓kc_n, mul8, mul8', mul4, mul4', nI_add, inT, nclN, ltT, ltF, leT, leF, eqT, eqF, nzF, m1F, m1T, shr, shg, bI0, bI1, bo_bI, bo_1, bo_0, eq10, eq00, frT1, frT2, frT3, fit0, fit1, fit2, fit3, true_and, and_true, ↓reduceIte, Nat.reduceAdd, Nat.reduceMul, and_self, not_false_eq_true, not_true_eq_false, Nat.zero_add, Nat.add_zero]
  · cases q2 : isFc g n s.1
    · by_cases q3 : wd g n s.1 = 7
      · simp (discharger := omega) only [↓w37_0, ↓w37_1, ↓w37_4, ↓w37_7, ↓w37_8, ↓w37_11, ↓w37_12, ↓w37_13, ↓w37_16, ↓w37_17, ↓w37_20, ↓w37_21, ↓w37_22, ↓w37_23, ↓w37_29, ↓w37_30, ↓w37_33, ↓w37_34, ↓w37_37, ↓w37_38, ↓w37_39, ↓w37_40, ↓w37_43, ↓w37_46, ↓w37_49, ↓w37_50, ↓w37_53, ↓w37_54, ↓w37_56, ↓w37_57, ↓w37_60, ↓w37_61, ↓w37_64, ↓w37_66, ↓w37_69, ↓w37_70, ↓w37_72, ↓w37_75, ↓w37_78, ↓w37_79, ↓w37_80, ↓w37_83, ↓w37_87, ↓w37_88, ↓w37_91, ↓w37_92, ↓w37_93, ↓w37_96, ↓w37_97, ↓w37_100, ↓w37_103, ↓w37_104, ↓w37_105, ↓w37_108, ↓w37_109, ↓w37_112, ↓w37_113, ↓w37_116, ↓w37_117, ↓w37_120, ↓w37_121, ↓w37_124, ↓w37_127, ↓w37_128, ↓w37_131, ↓w37_132, ↓w37_135, ↓w37_136, ↓w37_142, ↓w37_145, ↓w37_146, ↓w37_149, ↓w37_150, ↓w37_151, ↓w37_154, ↓w37_156, ↓w37_159, ↓w37_160, ↓w37_161, ↓w37_162, ↓w37_163, ↓w37_166, ↓w37_167, ↓w37_170, ↓w37_172, ↓w37_175, ↓w37_178, ↓w37_179, ↓w37_180, ↓w37_181, ↓w37_182, ↓w37_183, ↓w37_186, ↓w37_187, ↓w37_189, ↓w37_192, rc72, g72_0, g72_1, g72_2, p72_2, g72_3, p72_3, g72_4, p72_4, g72_5, p72_5, rc65, g65_0, g65_1, p65_1, g65_2, g65_3, g65_4, g65_5, g65_6, g65_7, p65_7, gi67, si67, rd72_3, rdo, h67, cmF2 hk4 q1, gd, ↓r26, wv1, fcE, q2, acT, acF, ↓e86, reduceCtorEq, ↓kc_i, ↓kc_l, ↓kc_r, ↓kc_n, mul8, mul8', mul4, mul4', nI_add, inT, nclN, ltT, ltF, leT, leF, eqT, eqF, nzF, m1F, m1T, shr, shg, bI0, bI1, bo_bI, bo_1, bo_0, eq10, eq00, frT1, frT2, frT3, fit0, fit1, fit2, fit3, true_and, and_true, ↓reduceIte, Nat.reduceAdd, Nat.reduceMul, and_self, not_false_eq_true, not_true_eq_false, Nat.zero_add, Nat.add_zero]
      · cases q4 : isSgn g n 40 s.1
        · simp (discharger := omega) only [↓w37_0, ↓w37_1, ↓w37_4, ↓w37_7, ↓w37_8, ↓w37_11, ↓w37_12, ↓w37_13, ↓w37_16, ↓w37_17, ↓w37_20, ↓w37_21, ↓w37_22, ↓w37_23, ↓w37_29, ↓w37_30, ↓w37_33, ↓w37_34, ↓w37_37, ↓w37_38, ↓w37_39, ↓w37_40, ↓w37_43, ↓w37_46, ↓w37_49, ↓w37_50, ↓w37_53, ↓w37_54, ↓w37_56, ↓w37_57, ↓w37_60, ↓w37_61, ↓w37_64, ↓w37_66, ↓w37_69, ↓w37_70, ↓w37_72, ↓w37_75, ↓w37_78, ↓w37_79, ↓w37_80, ↓w37_83, ↓w37_87, ↓w37_88, ↓w37_91, ↓w37_92, ↓w37_93, ↓w37_96, ↓w37_97, ↓w37_100, ↓w37_103, ↓w37_104, ↓w37_105, ↓w37_108, ↓w37_109, ↓w37_112, ↓w37_113, ↓w37_116, ↓w37_117, ↓w37_120, ↓w37_121, ↓w37_124, ↓w37_127, ↓w37_128, ↓w37_131, ↓w37_132, ↓w37_135, ↓w37_136, ↓w37_142, ↓w37_145, ↓w37_146, ↓w37_149, ↓w37_150, ↓w37_151, ↓w37_154, ↓w37_156, ↓w37_159, ↓w37_160, ↓w37_161, ↓w37_162, ↓w37_163, ↓w37_166, ↓w37_167, ↓w37_170, ↓w37_172, ↓w37_175, ↓w37_178, ↓w37_179, ↓w37_180, ↓w37_181, ↓w37_182, ↓w37_183, ↓w37_186, ↓w37_187, ↓w37_189, ↓w37_192, rc72, g72_0, g72_1, g72_2, p72_2, g72_3, p72_3, g72_4, p72_4, g72_5, p72_5, rc65, g65_0, g65_1, p65_1, g65_2, g65_3, g65_4, g65_5, g65_6, g65_7, p65_7, gi67, si67, rd72_3, rd72_5, f0, rdo, h67, cmF2 hk4 q1, gd, ↓r26, wv1, fcE, q2, acT, acF, ↓sg, q4, bI_f, ↓w1, reduceCtorEq, ↓kc_i, ↓kc_l, ↓kc_r, ↓kc_n, mul8, mul8', mul4, mul4', nI_add, inT, nclN, ltT, ltF, leT, leF, eqT, eqF, nzF, m1F, m1T, shr, shg, bI0, bI1, bo_bI, bo_1, bo_0, eq10, eq00, frT1, frT2, frT3, fit0, fit1, fit2, fit3, true_and, and_true, ↓reduceIte, Nat.reduceAdd, Nat.reduceMul, and_self, not_false_eq_true, not_true_eq_false, Nat.zero_add, Nat.add_zero]
        · simp (discharger := omega) only [↓w37_0, ↓w37_1, ↓w37_4, ↓w37_7, ↓w37_8, ↓w37_11, ↓w37_12, ↓w37_13, ↓w37_16, ↓w37_17, ↓w37_20, ↓w37_21, ↓w37_22, ↓w37_23, ↓w37_29, ↓w37_30, ↓w37_33, ↓w37_34, ↓w37_37, ↓w37_38, ↓w37_39, ↓w37_40, ↓w37_43, ↓w37_46, ↓w37_49, ↓w37_50, ↓w37_53, ↓w37_54, ↓w37_56, ↓w37_57, ↓w37_60, ↓w37_61, ↓w37_64, ↓w37_66, ↓w37_69, ↓w37_70, ↓w37_72, ↓w37_75, ↓w37_78, ↓w37_79, ↓w37_80, ↓w37_83, ↓w37_87, ↓w37_88, ↓w37_91, ↓w37_92, ↓w37_93, ↓w37_96, ↓w37_97, ↓w37_100, ↓w37_103, ↓w37_104, ↓w37_105, ↓w37_108, ↓w37_109, ↓w37_112, ↓w37_113, ↓w37_116, ↓w37_117, ↓w37_120, ↓w37_121, ↓w37_124, ↓w37_127, ↓w37_128, ↓w37_131, ↓w37_132, ↓w37_135, ↓w37_136, ↓w37_142, ↓w37_145, ↓w37_146, ↓w37_149, ↓w37_150, ↓w37_151, ↓w37_154, ↓w37_156, ↓w37_159, ↓w37_160, ↓w37_161, ↓w37_162, ↓w37_163, ↓w37_166, ↓w37_167, ↓w37_170, ↓w37_172, ↓w37_175, ↓w37_178, ↓w37_179, ↓w37_180, ↓w37_181, ↓w37_182, ↓w37_183, ↓w37_186, ↓w37_187, ↓w37_189, ↓w37_192, rc72, g72_0, g72_1, g72_2, p72_2, g72_3, p72_3, g72_4, p72_4, g72_5, p72_5, rc65, g65_0, g65_1, p65_1, g65_2, g65_3, g65_4, g65_5, g65_6, g65_7, p65_7, gi67, si67, rd72_3, rdo, h67, cmF2 hk4 q1, gd, ↓r26, wv1, fcE, q2, acT, acF, ↓sg, q4, bI_t, ↓e86, reduceCtorEq, ↓kc_i, ↓kc_l, ↓kc_r, ↓kc_n, mul8, mul8', mul4, mul4', nI_add, inT, nclN, ltT, ltF, leT, leF, eqT, eqF, nzF, m1F, m1T, shr, shg, bI0, bI1, bo_bI, bo_1, bo_0, eq10, eq00, frT1, frT2, frT3, fit0, fit1, fit2, fit3, true_and, and_true, ↓reduceIte, Nat.reduceAdd, Nat.reduceMul, and_self, not_false_eq_true, not_true_eq_false, Nat.zero_add, Nat.add_zero]
    · by_cases q3 : wd g n s.1 = 7
      · simp (discharger := omega) only [↓w37_0, ↓w37_1, ↓w37_4, ↓w37_7, ↓w37_8, ↓w37_11, ↓w37_12, ↓w37_13, ↓w37_16, ↓w37_17, ↓w37_20, ↓w37_21, ↓w37_22, ↓w37_23, ↓w37_29, ↓w37_30, ↓w37_33, ↓w37_34, ↓w37_37, ↓w37_38, ↓w37_39, ↓w37_40, ↓w37_43, ↓w37_46, ↓w37_49, ↓w37_50, ↓w37_53, ↓w37_54, ↓w37_56, ↓w37_57, ↓w37_60, ↓w37_61, ↓w37_64, ↓w37_66, ↓w37_69, ↓w37_70, ↓w37_72, ↓w37_75, ↓w37_78, ↓w37_79, ↓w37_80, ↓w37_83, ↓w37_87, ↓w37_88, ↓w37_91, ↓w37_92, ↓w37_93, ↓w37_96, ↓w37_97, ↓w37_100, ↓w37_103, ↓w37_104, ↓w37_105, ↓w37_108, ↓w37_109, ↓w37_112, ↓w37_113, ↓w37_116, ↓w37_117, ↓w37_120, ↓w37_121, ↓w37_124, ↓w37_127, ↓w37_128, ↓w37_131, ↓w37_132, ↓w37_135, ↓w37_136, ↓w37_142, ↓w37_145, ↓w37_146, ↓w37_149, ↓w37_150, ↓w37_151, ↓w37_154, ↓w37_156, ↓w37_159, ↓w37_160, ↓w37_161, ↓w37_162, ↓w37_163, ↓w37_166, ↓w37_167, ↓w37_170, ↓w37_172, ↓w37_175, ↓w37_178, ↓w37_179, ↓w37_180, ↓w37_181, ↓w37_182, ↓w37_183, ↓w37_186, ↓w37_187, ↓w37_189, ↓w37_192, rc72, g72_0, g72_1, g72_2, p72_2, g72_3, p72_3, g72_4, p72_4, g72_5, p72_5, rc65, g65_0, g65_1, p65_1, g65_2, g65_3, g65_4, g65_5, g65_6, g65_7, p65_7, gi67, si67, rd72_3, rdo, h67, cmF2 hk4 q1, gd, ↓r26, wv1, fcE, q2, acT, acF, ↓e86, reduceCtorEq, ↓kc_i, ↓kc_l, ↓kc_r, ↓kc_n, mul8, mul8', mul4, mul4', nI_add, inT, nclN, ltT, ltF, leT, leF, eqT, eqF, nzF, m1F, m1T, shr, shg, bI0, bI1, bo_bI, bo_1, bo_0, eq10, eq00, frT1, frT2, frT3, fit0, fit1, fit2, fit3, true_and, and_true, ↓reduceIte, Nat.reduceAdd, Nat.reduceMul, and_self, not_false_eq_true, not_true_eq_false, Nat.zero_add, Nat.add_zero]
      · simp (discharger := omega) only [↓w37_0, ↓w37_1, ↓w37_4, ↓w37_7, ↓w37_8, ↓w37_11, ↓w37_12, ↓w37_13, ↓w37_16, ↓w37_17, ↓w37_20, ↓w37_21, ↓w37_22, ↓w37_23, ↓w37_29, ↓w37_30, ↓w37_33, ↓w37_34, ↓w37_37, ↓w37_38, ↓w37_39, ↓w37_40, ↓w37_43, ↓w37_46, ↓w37_49, ↓w37_50, ↓w37_53, ↓w37_54, ↓w37_56, ↓w37_57, ↓w37_60, ↓w37_61, ↓w37_64, ↓w37_66, ↓w37_69, ↓w37_70, ↓w37_72, ↓w37_75, ↓w37_78, ↓w37_79, ↓w37_80, ↓w37_83, ↓w37_87, ↓w37_88, ↓w37_91, ↓w37_92, ↓w37_93, ↓w37_96, ↓w37_97, ↓w37_100, ↓w37_103, ↓w37_104, ↓w37_105, ↓w37_108, ↓w37_109, ↓w37_112, ↓w37_113, ↓w37_116, ↓w37_117, ↓w37_120, ↓w37_121, ↓w37_124, ↓w37_127, ↓w37_128, ↓w37_131, ↓w37_132, ↓w37_135, ↓w37_136, ↓w37_142, ↓w37_145, ↓w37_146, ↓w37_149, ↓w37_150, ↓w37_151, ↓w37_154, ↓w37_156, ↓w37_159, ↓w37_160, ↓w37_161, ↓w37_162, ↓w37_163, ↓w37_166, ↓w37_167, ↓w37_170, ↓w37_172, ↓w37_175, ↓w37_178, ↓w37_179, ↓w37_180, ↓w37_181, ↓w37_182, ↓w37_183, ↓w37_186, ↓w37_187, ↓w37_189, ↓w37_192, rc72, g72_0, g72_1, g72_2, p72_2, g72_3, p72_3, g72_4, p72_4, g72_5, p72_5, rc65, g65_0, g65_1, p65_1, g65_2, g65_3, g65_4, g65_5, g65_6, g65_7, p65_7, gi67, si67, rd72_3, rdo, h67, cmF2 hk4 q1, gd, ↓r26, wv1, fcE, q2, acT, acF, ↓e86, reduceCtorEq, ↓kc_i, ↓kc_l, ↓kc_r, ↓kc_n, mul8, mul8', mul4, mul4', nI_add, inT, nclN, ltT, ltF, leT, leF, eqT, eqF, nzF, m1F, m1T, shr, shg, bI0, bI1, bo_bI, bo_1, bo_0, eq10, eq00, frT1, frT2, frT3, fit0, fit1, fit2, fit3, true_and, and_true, ↓reduceIte, Nat.reduceAdd, Nat.reduceMul, and_self, not_false_eq_true, not_true_eq_false, Nat.zero_add, Nat.add_zero]
theorem k_levelF (hT : cutT I J R g n T) (hn : n ≤ 1000) (hg : ∀ k, k < n → g k < 256) (hs : okRs T s) (hf : s.2 ≠ 0) : ∀ m lv d P, lv + m = 4 → Wp L xs (d+m+2) 35 0 [some (.ref (72)), some (.int (nI lv)), some (.int (nI 0)), none, none, none] [] (mk (rd I s) J (rr R g n s.1) Z) P = P none (mk (rd I s) J (rr R g n s.1) Z) := by
  have hs2 := hs.2
  have f0 : (nI s.2 = nI 0) = False := eqF hf (by omega) (by decide)
  intro m
  induction m with
  | zero =>
    intro lv d P hl
    have : lv = 4 := by omega
    subst this
    have pf := fun P => k_partF (L := L) (xs := xs) (d := d) (P := P) (Z := Z) (dep := 0) hT hn hg hs hf (by decide)
    refine w35_0.trans ?_
    simp (discharger := omega) only [↓w35_1, ↓w35_2, ↓w35_5, ↓w35_6, ↓w35_7, ↓w35_10, ↓w35_11, ↓w35_12, ↓w35_13, ↓w35_14, ↓w35_15, ↓w35_16, ↓w35_19, ↓w35_20, ↓w35_21, ↓w35_24, ↓w35_25, ↓w35_28, ↓w35_31, ↓w35_32, ↓w35_33, ↓w35_37, ↓w35_38, ↓w35_41, ↓w35_42, ↓w35_43, ↓w35_46, ↓w35_48, ↓w35_50, ↓w35_53, ↓w35_54, ↓w35_57, ↓w35_60, ↓w35_61, ↓w35_62, ↓w35_65, ↓w35_66, ↓w35_67, ↓w35_68, ↓w35_69, ↓w35_70, ↓w35_73, ↓w35_74, ↓w35_77, ↓w35_79, ↓w35_82, ↓w35_85, ↓w35_88, rc72, g72_0, g72_1, g72_2, p72_2, g72_3, p72_3, g72_4, p72_4, g72_5, p72_5, ↓pf, ↓kc_i, ↓kc_l, ↓kc_r, ↓kc_n, mul8, mul8', mul4, mul4', nI_add, inT, nclN, ltT, ltF, leT, leF, eqT, eqF, nzF, m1F, m1T, shr, shg, bI0, bI1, bo_bI, bo_1, bo_0, eq10, eq00, frT1, frT2, frT3, fit0, fit1, fit2, fit3, true_and, and_true, ↓reduceIte, Nat.reduceAdd, Nat.reduceMul, and_self, not_false_eq_true, not_true_eq_false, Nat.zero_add, Nat.add_zero]
  | succ m ih =>
    intro lv d P hl
    rw [show d + (m + 1) + 2 = d + m + 1 + 1 + 1 by omega]
    have h1 := fun P => ih (lv + 1) d P (by omega)
    have jo := fun P => k_joinerOf (L := L) (xs := xs) (d := d + m + 1) (P := P) (Z := Z) (lv := lv) hT hn hs (by omega) hg
    have hl3 : lv = 1 ∨ lv ≠ 1 := by omega
    have fin : ∀ k t, 1 ≤ k → k ≤ 1000 → Wp L xs (d+m+1+1+1) 35 35 [some (.ref (72)), some (.int (nI lv)), some (.int (nI 0)), some (.int (nI k)), some (.int (nI 0)), t] [] (mk (rd I s) J (rr R g n s.1) Z) P = P none (mk (rd I s) J (rr R g n s.1) Z) := by
      intro k t h1 h2
      refine w35_35.trans ?_
      generalize jn g n lv s.1 = jc at *
      by_cases h0 : jc = nI 0
      · subst h0
        simp (discharger := omega) only [↓w35_1, ↓w35_2, ↓w35_5, ↓w35_6, ↓w35_7, ↓w35_10, ↓w35_11, ↓w35_12, ↓w35_13, ↓w35_14, ↓w35_15, ↓w35_16, ↓w35_19, ↓w35_20, ↓w35_21, ↓w35_24, ↓w35_25, ↓w35_28, ↓w35_31, ↓w35_32, ↓w35_33, ↓w35_37, ↓w35_38, ↓w35_41, ↓w35_42, ↓w35_43, ↓w35_46, ↓w35_48, ↓w35_50, ↓w35_53, ↓w35_54, ↓w35_57, ↓w35_60, ↓w35_61, ↓w35_62, ↓w35_65, ↓w35_66, ↓w35_67, ↓w35_68, ↓w35_69, ↓w35_70, ↓w35_73, ↓w35_74, ↓w35_77, ↓w35_79, ↓w35_82, ↓w35_85, ↓w35_88, rc72, g72_0, g72_1, g72_2, p72_2, g72_3, p72_3, g72_4, p72_4, g72_5, p72_5, ↓jo, ↓kc_i, ↓kc_l, ↓kc_r, ↓kc_n, mul8, mul8', mul4, mul4', nI_add, inT, nclN, ltT, ltF, leT, leF, eqT, eqF, nzF, m1F, m1T, shr, shg, bI0, bI1, bo_bI, bo_1, bo_0, eq10, eq00, frT1, frT2, frT3, fit0, fit1, fit2, fit3, true_and, and_true, ↓reduceIte, Nat.reduceAdd, Nat.reduceMul, and_self, not_false_eq_true, not_true_eq_false, Nat.zero_add, Nat.add_zero]
      · simp (discharger := omega) only [↓w35_1, ↓w35_2, ↓w35_5, ↓w35_6, ↓w35_7, ↓w35_10, ↓w35_11, ↓w35_12, ↓w35_13, ↓w35_14, ↓w35_15, ↓w35_16, ↓w35_19, ↓w35_20, ↓w35_21, ↓w35_24, ↓w35_25, ↓w35_28, ↓w35_31, ↓w35_32, ↓w35_33, ↓w35_37, ↓w35_38, ↓w35_41, ↓w35_42, ↓w35_43, ↓w35_46, ↓w35_48, ↓w35_50, ↓w35_53, ↓w35_54, ↓w35_57, ↓w35_60, ↓w35_61, ↓w35_62, ↓w35_65, ↓w35_66, ↓w35_67, ↓w35_68, ↓w35_69, ↓w35_70, ↓w35_73, ↓w35_74, ↓w35_77, ↓w35_79, ↓w35_82, ↓w35_85, ↓w35_88, rc72, g72_0, g72_1, g72_2, p72_2, g72_3, p72_3, g72_4, p72_4, g72_5, p72_5, ↓jo, h0, rd72_5, f0, ↓kc_i, ↓kc_l, ↓kc_r, ↓kc_n, mul8, mul8', mul4, mul4', nI_add, inT, nclN, ltT, ltF, leT, leF, eqT, eqF, nzF, m1F, m1T, shr, shg, bI0, bI1, bo_bI, bo_1, bo_0, eq10, eq00, frT1, frT2, frT3, fit0, fit1, fit2, fit3, true_and, and_true, ↓reduceIte, Nat.reduceAdd, Nat.reduceMul, and_self, not_false_eq_true, not_true_eq_false, Nat.zero_add, Nat.add_zero]
    refine w35_0.trans ?_
    rcases hl3 with rfl | hl1
    · simp (discharger := omega) only [↓w35_1, ↓w35_2, ↓w35_5, ↓w35_6, ↓w35_7, ↓w35_10, ↓w35_11, ↓w35_12, ↓w35_13, ↓w35_14, ↓w35_15, ↓w35_16, ↓w35_19, ↓w35_20, ↓w35_21, ↓w35_24, ↓w35_25, ↓w35_28, ↓w35_31, ↓w35_32, ↓w35_33, ↓w35_37, ↓w35_38, ↓w35_41, ↓w35_42, ↓w35_43, ↓w35_46, ↓w35_48, ↓w35_50, ↓w35_53, ↓w35_54, ↓w35_57, ↓w35_60, ↓w35_61, ↓w35_62, ↓w35_65, ↓w35_66, ↓w35_67, ↓w35_68, ↓w35_69, ↓w35_70, ↓w35_73, ↓w35_74, ↓w35_77, ↓w35_79, ↓w35_82, ↓w35_85, ↓w35_88, rc72, g72_0, g72_1, g72_2, p72_2, g72_3, p72_3, g72_4, p72_4, g72_5, p72_5, ↓h1, ↓fin, ↓kc_i, ↓kc_l, ↓kc_r, ↓kc_n, mul8, mul8', mul4, mul4', nI_add, inT, nclN, ltT, ltF, leT, leF, eqT, eqF, nzF, m1F, m1T, shr, shg, bI0, bI1, bo_bI, bo_1, bo_0, eq10, eq00, frT1, frT2, frT3, fit0, fit1, fit2, fit3, true_and, and_true, ↓reduceIte, Nat.reduceAdd, Nat.reduceMul, and_self, not_false_eq_true, not_true_eq_false, Nat.zero_add, Nat.add_zero]
    · simp (discharger := omega) only [↓w35_1, ↓w35_2, ↓w35_5, ↓w35_6, ↓w35_7, ↓w35_10, ↓w35_11, ↓w35_12, ↓w35_13, ↓w35_14, ↓w35_15, ↓w35_16, ↓w35_19, ↓w35_20, ↓w35_21, ↓w35_24, ↓w35_25, ↓w35_28, ↓w35_31, ↓w35_32, ↓w35_33, ↓w35_37, ↓w35_38, ↓w35_41, ↓w35_42, ↓w35_43, ↓w35_46, ↓w35_48, ↓w35_50, ↓w35_53, ↓w35_54, ↓w35_57, ↓w35_60, ↓w35_61, ↓w35_62, ↓w35_65, ↓w35_66, ↓w35_67, ↓w35_68, ↓w35_69, ↓w35_70, ↓w35_73, ↓w35_74, ↓w35_77, ↓w35_79, ↓w35_82, ↓w35_85, ↓w35_88, rc72, g72_0, g72_1, g72_2, p72_2, g72_3, p72_3, g72_4, p72_4, g72_5, p72_5, ↓h1, ↓fin, ↓kc_i, ↓kc_l, ↓kc_r, ↓kc_n, mul8, mul8', mul4, mul4', nI_add, inT, nclN, ltT, ltF, leT, leF, eqT, eqF, nzF, m1F, m1T, shr, shg, bI0, bI1, bo_bI, bo_1, bo_0, eq10, eq00, frT1, frT2, frT3, fit0, fit1, fit2, fit3, true_and, and_true, ↓reduceIte, Nat.reduceAdd, Nat.reduceMul, and_self, not_false_eq_true, not_true_eq_false, Nat.zero_add, Nat.add_zero]
end G6
