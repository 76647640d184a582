/-! RISK -/
def rst (G : Gv) (i : Nat) : Int32 := allR (gN G) &&& (nI i ^^^ -1)
def rkd (V : Vw) (c : Nat) : Int32 := rW (V 1) c (nI 3) (nI 4)
def oth (V : Vw) (q : Nat) (z : Nat × Int32 × Int32) : Bool := !(decide (z.2.1 = V 3 q) && decide (z.2.2 = V 4 q))
def ris1 (G : Gv) (V : Vw) (c r0 i : Nat) : Bool := decide (pcn (nI i) = gN G / 2) && (!decide (rst G i &&& (rkd V c ^^^ -1) = nI 0) && oth V (8 * r0 + c) (fdV G V (rst G i) c))
def ris (G : Gv) (V : Vw) (c r0 : Nat) : Nat := lp (fun i a => if ris1 G V c r0 i = true then a + 1 else a) (2 ^ gN G) 0
def vRis (G : Gv) (V : Vw) (x : Int32) : Int32 := if isR (gM G) x = true then (match ff 8 (tb (rkd V x.toNatClampNeg)) with | none => -1 | some r0 => nI (ris G V x.toNatClampNeg r0)) else -1
section F9
variable {L : Nat} {xs : Nat → Int32} {d : Nat} {P : Option Value → Hp → Prop} {I I' I0 : Mi} {J : Mj} {R : Mr} {Z : Mz} {r c r' c' k l N M o n m B a b t w nx mn s sd A j mw ms u i r0 : Nat} {x y z : Int32} {V V' V0 W0 W : Vw} {f f1 f4 g p q : Nat → Int32} {G G' : Gv} {U : Uq} {Q : Wq} {S : Sq} {h : Hp}
theorem lp_su {T : Type} {F : Nat → T → T} {n : Nat} {a : T} : lp F (n + 1) a = F n (lp F n a) := rfl
theorem allR_n (h : N ≤ 5) : allR N = nI (2 ^ N - 1) := by
  have h' : N = 0 ∨ N = 1 ∨ N = 2 ∨ N = 3 ∨ N = 4 ∨ N = 5 := by omega
  rcases h' with rfl | rfl | rfl | rfl | rfl | rfl <;> decide
theorem p2 (h : N ≤ 5) : 1 ≤ 2 ^ N ∧ 2 ^ N ≤ 32 := by
  have h' : N = 0 ∨ N = 1 ∨ N = 2 ∨ N = 3 ∨ N = 4 ∨ N = 5 := by omega
  rcases h' with rfl | rfl | rfl | rfl | rfl | rfl <;> decide
theorem sm32 (h : i < 256) : sm (nI i) := sm_of (by revert i; decide +kernel)
theorem rk_sm : sm (rkd V c) := sm_bm (by decide)
theorem rk_5 (h : tb (rkd V c) k = true) : k < 5 := by
  unfold rkd rW at h
  rw [tb_bm (by decide)] at h
  simp only [Bool.and_eq_true, decide_eq_true_eq] at h
  exact h.1
theorem rk_0 : ff 8 (tb (rkd V c)) = none ↔ rkd V c = nI 0 := by
  constructor
  · intro h
    refine tb_ext fun k _ => ?_
    rw [tb_0]
    by_cases hk : k < 8
    · exact ff_none.mp h k hk
    · exact rk_sm k (by omega)
  · intro h
    rw [h]
    exact ff_none.mpr fun k _ => tb_0
theorem k_risk (hG : okG (gI I)) (hV : okV B (gI I) (vw I 102)) : ∃ I', (∀ a, a ≠ 128 → I' a = I a) ∧ ∀ P, Wp L xs (d+5) 153 0 [some (.ref (64)), some (.int (x)), none, none, none, none, none, none] [] (mk I J R Z) P = P (some (.int (vRis (gI I) (vw I 102) x))) (mk I' J R Z) := by
  have hN : I 76 0 = nI (gN (gI I)) := hG.1.1
  have hM : I 76 2 = nI (gM (gI I)) := hG.2.1.1
  have h5 := hG.1.2
  have h8 := hG.2.1.2
  unfold vRis
  by_cases hx : isR (gM (gI I)) x = true
  · rw [if_pos hx]
    obtain ⟨c, hc, rfl⟩ := isR_t hx (by omega)
    rw [nI_clamp (by omega)]
    have hrw := fun P => k_replicasWith' (L := L) (xs := xs) (d := d + 3) (I := I) (J := J) (R := R) (Z := Z) (P := P) (s := 102) (c := c) (a := nI 3) (b := nI 4) isS_102 (by omega)
    have er : rW (I (102 + 1)) c (nI 3) (nI 4) = rkd (vw I 102) c := by unfold rkd; exact Eq.refl _
    rw [er] at hrw
    have hfo := fun P => k_firstOf (L := L) (xs := xs) (d := d + 3) (I := I) (J := J) (R := R) (Z := Z) (P := P) (x := rkd (vw I 102) c) rk_sm
    cases hf : ff 8 (tb (rkd (vw I 102) c)) with
    | none =>
      have h0 := rk_0.mp hf
      rw [h0] at hrw
      refine ⟨I, fun a _ => Eq.refl _, fun P => ?_⟩
      simp (discharger := omega) only [↓w153_0, ↓w153_1, ↓w153_2, ↓w153_5, ↓w153_8, ↓w153_9, ↓w153_10, ↓w153_11, ↓w153_14, ↓w153_15, ↓w153_16, ↓w153_17, ↓w153_20, ↓w153_21, ↓w153_22, ↓w153_25, ↓w153_26, ↓w153_27, ↓w153_28, ↓w153_31, ↓w153_32, ↓w153_35, ↓w153_36, ↓w153_37, ↓w153_40, ↓w153_43, ↓w153_45, ↓w153_46, ↓w153_48, ↓w153_49, ↓w153_53, ↓w153_55, ↓w153_58, ↓w153_60, ↓w153_62, ↓w153_63, ↓w153_64, ↓w153_65, ↓w153_67, ↓w153_69, ↓w153_72, ↓w153_73, ↓w153_76, ↓w153_79, ↓w153_80, ↓w153_81, ↓w153_84, ↓w153_86, ↓w153_87, ↓w153_88, ↓w153_89, ↓w153_90, ↓w153_93, ↓w153_94, ↓w153_97, ↓w153_98, ↓w153_101, ↓w153_103, ↓w153_104, ↓w153_105, ↓w153_108, ↓w153_111, ↓w153_114, ↓w153_117, ↓w153_120, ↓w153_122, ↓k_isCommand hM, hx, bI_t, ↓hrw, ↓kc_i, ↓kc_l, ↓kc_r, ↓kc_n, rc64, g64_0, g64_1, g64_2, g64_3, g64_4, g64_5, g64_6, g64_7, g64_8, g64_9, g64_10, g64_11, g64_12, rc102, g102_0, p102_0, g102_1, p102_1, g102_2, g102_3, g102_4, g102_5, g102_6, g102_7, g102_8, g102_9, g102_10, g102_11, g102_12, mul8, mul8', mul4, mul4', nI_add, inT, nclN, ltT, ltF, leT, leF, eqT, eqF, nzF, m1F, m1T, shr, shg, bI0, bI1, bo_bI, bo_1, bo_0, eq10, eq00, frT1, frT2, frT3, fit0, fit1, fit2, fit3, true_and, and_true, ↓reduceIte, Nat.reduceAdd, Nat.reduceMul, and_self, not_false_eq_true, not_true_eq_false, Nat.zero_add, Nat.add_zero]
    | some r0 =>
      have hr0 : r0 < 5 := rk_5 (ff_some.mp hf).2.1
      have hn0 : ¬ rkd (vw I 102) c = nI 0 := fun z => by rw [rk_0.mpr z] at hf; cases hf
      rw [hf] at hfo
      have eoN : oN (some r0) = nI r0 := rfl
      rw [eoN] at hfo
      obtain ⟨hl, hl5⟩ := hG.2.2.1 c hc
      have key : ∀ n, n ≤ 2 ^ gN (gI I) → ∃ I' t, (∀ a, a ≠ 128 → I' a = I a) ∧ ∀ P, Wp L xs (d+5) 153 51 [some (.ref (64)), some (.int (nI c)), some (.int (rkd (vw I 102) c)), some (.int (nI (8 * r0 + c))), some (.int (allR (gN (gI I)))), some (.int (nI 0)), some (.int (nI 0)), none] [] (mk I J R Z) P = Wp L xs (d+5) 153 51 [some (.ref (64)), some (.int (nI c)), some (.int (rkd (vw I 102) c)), some (.int (nI (8 * r0 + c))), some (.int (allR (gN (gI I)))), some (.int (nI (lp (fun i a => if ris1 (gI I) (vw I 102) c r0 i = true then a + 1 else a) n 0))), some (.int (nI n)), t] [] (mk I' J R Z) P := by
        intro n
        induction n with
        | zero => intro _; exact ⟨I, none, fun a _ => Eq.refl _, fun P => Eq.refl _⟩
        | succ n ih =>
          intro hn
          obtain ⟨I1, t, e1, hw⟩ := ih (by omega)
          have hp2 := p2 h5
          have hbc := fun P => k_bitCount (L := L) (xs := xs) (d := d + 4) (I := I1) (J := J) (R := R) (Z := Z) (P := P) (x := nI n) (sm32 (by omega))
          have hwf := fun P => k_wouldFindOther (L := L) (xs := xs) (d := d) (I := I1) (J := J) (R := R) (Z := Z) (P := P) (s := 102) (c := c) (x := rst (gI I) n) (M := gM (gI I)) (N := gN (gI I)) (l := gL (gI I) c) (q := 8 * r0 + c) isS_102 (by omega) (by rw [e1 _ (by decide)]; exact hM) h8 (by rw [e1 _ (by decide)]; exact hN) h5 (by rw [e1 _ (by decide)]; exact hl) (by omega) (by omega)
          rw [e1 (102 + 1) (by decide), e1 (102 + 2) (by decide), e1 (102 + 3) (by decide), e1 (102 + 4) (by decide), e1 81 (by decide), e1 102 (by decide)] at hwf
          have ef : fnd (gN (gI I)) (gM (gI I)) (I (102 + 1)) (I (102 + 2)) (I (102 + 3)) (I (102 + 4)) (I 81 c) (I 102 1) (gL (gI I) c) (rst (gI I) n) c = fdV (gI I) (vw I 102) (rst (gI I) n) c := by unfold fdV; exact Eq.refl _
          rw [ef] at hwf
          generalize hz : fdV (gI I) (vw I 102) (rst (gI I) n) c = z at *
          have eo : (!(decide (z.2.1 = I (102 + 3) (8 * r0 + c)) && decide (z.2.2 = I (102 + 4) (8 * r0 + c)))) = oth (vw I 102) (8 * r0 + c) z := by unfold oth; exact Eq.refl _
          dsimp only at hwf
          rw [eo] at hwf
          have est : allR (gN (gI I)) &&& (nI n ^^^ -1) = rst (gI I) n := by unfold rst; exact Eq.refl _
          have hlt : ¬ allR (gN (gI I)) < nI n := by rw [allR_n h5]; exact nI_nlt (by omega) (by omega)
          have hN1 : I1 76 0 = nI (gN (gI I)) := by rw [e1 _ (by decide)]; exact hN
          have hlp : lp (fun i a => if ris1 (gI I) (vw I 102) c r0 i = true then a + 1 else a) (n + 1) 0 = if ris1 (gI I) (vw I 102) c r0 n = true then lp (fun i a => if ris1 (gI I) (vw I 102) c r0 i = true then a + 1 else a) n 0 + 1 else lp (fun i a => if ris1 (gI I) (vw I 102) c r0 i = true then a + 1 else a) n 0 := lp_su
          have hrs : ris1 (gI I) (vw I 102) c r0 n = (decide (pcn (nI n) = gN (gI I) / 2) && (!decide (rst (gI I) n &&& (rkd (vw I 102) c ^^^ -1) = nI 0) && oth (vw I 102) (8 * r0 + c) z)) := by unfold ris1; rw [hz]
          rw [hlp, hrs]
          generalize lp (fun i a => if ris1 (gI I) (vw I 102) c r0 i = true then a + 1 else a) n 0 = cnt at *
          have hpc := pcn_le (x := nI n)
          generalize oth (vw I 102) (8 * r0 + c) z = ob at *
          have ix : ∀ a : Int32, (a = 0) = (a = nI 0) := fun a => Eq.refl _
          by_cases q1 : pcn (nI n) = gN (gI I) / 2
          · by_cases q2 : rst (gI I) n &&& (rkd (vw I 102) c ^^^ -1) = nI 0
            · refine ⟨I1, some (.int (rst (gI I) n)), e1, fun P => (hw P).trans (w153_51.trans ?_)⟩
              simp (discharger := omega) only [↓w153_0, ↓w153_1, ↓w153_2, ↓w153_5, ↓w153_8, ↓w153_9, ↓w153_10, ↓w153_11, ↓w153_14, ↓w153_15, ↓w153_16, ↓w153_17, ↓w153_20, ↓w153_21, ↓w153_22, ↓w153_25, ↓w153_26, ↓w153_27, ↓w153_28, ↓w153_31, ↓w153_32, ↓w153_35, ↓w153_36, ↓w153_37, ↓w153_40, ↓w153_43, ↓w153_45, ↓w153_46, ↓w153_48, ↓w153_49, ↓w153_53, ↓w153_55, ↓w153_58, ↓w153_60, ↓w153_62, ↓w153_63, ↓w153_64, ↓w153_65, ↓w153_67, ↓w153_69, ↓w153_72, ↓w153_73, ↓w153_76, ↓w153_79, ↓w153_80, ↓w153_81, ↓w153_84, ↓w153_86, ↓w153_87, ↓w153_88, ↓w153_89, ↓w153_90, ↓w153_93, ↓w153_94, ↓w153_97, ↓w153_98, ↓w153_101, ↓w153_103, ↓w153_104, ↓w153_105, ↓w153_108, ↓w153_111, ↓w153_114, ↓w153_117, ↓w153_120, ↓w153_122, ↓hbc, q1, q2, est, hN1, pk_div, hlt, ↓kc_i, ↓kc_l, ↓kc_r, ↓kc_n, rc64, g64_0, g64_1, g64_2, g64_3, g64_4, g64_5, g64_6, g64_7, g64_8, g64_9, g64_10, g64_11, g64_12, rc76, g76_0, p76_0, g76_1, p76_1, g76_2, p76_2, g76_3, g76_4, g76_5, g76_6, g76_7, g76_8, mul8, mul8', mul4, mul4', nI_add, inT, nclN, ltT, ltF, leT, leF, eqT, eqF, nzF, m1F, m1T, shr, shg, bI0, bI1, bo_bI, bo_1, bo_0, eq10, eq00, frT1, frT2, frT3, fit0, fit1, fit2, fit3, true_and, and_true, ↓reduceIte, Nat.reduceAdd, Nat.reduceMul, and_self, not_false_eq_true, not_true_eq_false, Nat.zero_add, Nat.add_zero, decide_true, Bool.not_true, Bool.false_and, Bool.and_false, Bool.false_eq_true]
            · refine ⟨fsd I1 z.2.1 z.2.2, some (.int (rst (gI I) n)), fun a ha => by rw [fsd_ne ha, e1 a ha], fun P => (hw P).trans (w153_51.trans ?_)⟩
              cases ob with
              | true =>
                rw [bI_t] at hwf
                simp (discharger := omega) only [↓w153_0, ↓w153_1, ↓w153_2, ↓w153_5, ↓w153_8, ↓w153_9, ↓w153_10, ↓w153_11, ↓w153_14, ↓w153_15, ↓w153_16, ↓w153_17, ↓w153_20, ↓w153_21, ↓w153_22, ↓w153_25, ↓w153_26, ↓w153_27, ↓w153_28, ↓w153_31, ↓w153_32, ↓w153_35, ↓w153_36, ↓w153_37, ↓w153_40, ↓w153_43, ↓w153_45, ↓w153_46, ↓w153_48, ↓w153_49, ↓w153_53, ↓w153_55, ↓w153_58, ↓w153_60, ↓w153_62, ↓w153_63, ↓w153_64, ↓w153_65, ↓w153_67, ↓w153_69, ↓w153_72, ↓w153_73, ↓w153_76, ↓w153_79, ↓w153_80, ↓w153_81, ↓w153_84, ↓w153_86, ↓w153_87, ↓w153_88, ↓w153_89, ↓w153_90, ↓w153_93, ↓w153_94, ↓w153_97, ↓w153_98, ↓w153_101, ↓w153_103, ↓w153_104, ↓w153_105, ↓w153_108, ↓w153_111, ↓w153_114, ↓w153_117, ↓w153_120, ↓w153_122, ↓hbc, q1, q2, est, hN1, pk_div, hlt, ↓hwf, ↓kc_i, ↓kc_l, ↓kc_r, ↓kc_n, rc64, g64_0, g64_1, g64_2, g64_3, g64_4, g64_5, g64_6, g64_7, g64_8, g64_9, g64_10, g64_11, g64_12, rc76, g76_0, p76_0, g76_1, p76_1, g76_2, p76_2, g76_3, g76_4, g76_5, g76_6, g76_7, g76_8, rc128, g128_0, g128_1, g128_2, p128_2, g128_3, p128_3, rc102, g102_0, p102_0, g102_1, p102_1, g102_2, g102_3, g102_4, g102_5, g102_6, g102_7, g102_8, g102_9, g102_10, g102_11, g102_12, mul8, mul8', mul4, mul4', nI_add, inT, nclN, ltT, ltF, leT, leF, eqT, eqF, nzF, m1F, m1T, shr, shg, bI0, bI1, bo_bI, bo_1, bo_0, eq10, eq00, frT1, frT2, frT3, fit0, fit1, fit2, fit3, true_and, and_true, ↓reduceIte, Nat.reduceAdd, Nat.reduceMul, and_self, not_false_eq_true, not_true_eq_false, Nat.zero_add, Nat.add_zero, decide_true, decide_false, Bool.not_false, Bool.true_and]
              | false =>
                rw [bI_f] at hwf
                simp (discharger := omega) only [↓w153_0, ↓w153_1, ↓w153_2, ↓w153_5, ↓w153_8, ↓w153_9, ↓w153_10, ↓w153_11, ↓w153_14, ↓w153_15, ↓w153_16, ↓w153_17, ↓w153_20, ↓w153_21, ↓w153_22, ↓w153_25, ↓w153_26, ↓w153_27, ↓w153_28, ↓w153_31, ↓w153_32, ↓w153_35, ↓w153_36, ↓w153_37, ↓w153_40, ↓w153_43, ↓w153_45, ↓w153_46, ↓w153_48, ↓w153_49, ↓w153_53, ↓w153_55, ↓w153_58, ↓w153_60, ↓w153_62, ↓w153_63, ↓w153_64, ↓w153_65, ↓w153_67, ↓w153_69, ↓w153_72, ↓w153_73, ↓w153_76, ↓w153_79, ↓w153_80, ↓w153_81, ↓w153_84, ↓w153_86, ↓w153_87, ↓w153_88, ↓w153_89, ↓w153_90, ↓w153_93, ↓w153_94, ↓w153_97, ↓w153_98, ↓w153_101, ↓w153_103, ↓w153_104, ↓w153_105, ↓w153_108, ↓w153_111, ↓w153_114, ↓w153_117, ↓w153_120, ↓w153_122, ↓hbc, q1, q2, est, hN1, pk_div, hlt, ↓hwf, ↓kc_i, ↓kc_l, ↓kc_r, ↓kc_n, rc64, g64_0, g64_1, g64_2, g64_3, g64_4, g64_5, g64_6, g64_7, g64_8, g64_9, g64_10, g64_11, g64_12, rc76, g76_0, p76_0, g76_1, p76_1, g76_2, p76_2, g76_3, g76_4, g76_5, g76_6, g76_7, g76_8, rc128, g128_0, g128_1, g128_2, p128_2, g128_3, p128_3, rc102, g102_0, p102_0, g102_1, p102_1, g102_2, g102_3, g102_4, g102_5, g102_6, g102_7, g102_8, g102_9, g102_10, g102_11, g102_12, mul8, mul8', mul4, mul4', nI_add, inT, nclN, ltT, ltF, leT, leF, eqT, eqF, nzF, m1F, m1T, shr, shg, bI0, bI1, bo_bI, bo_1, bo_0, eq10, eq00, frT1, frT2, frT3, fit0, fit1, fit2, fit3, true_and, and_true, ↓reduceIte, Nat.reduceAdd, Nat.reduceMul, and_self, not_false_eq_true, not_true_eq_false, Nat.zero_add, Nat.add_zero, decide_true, decide_false, Bool.not_false, Bool.and_false, Bool.false_eq_true]
          · have q1' : ¬ nI (pcn (nI n)) = nI (gN (gI I) / 2) := fun z => q1 ((nI_eq (by omega) (by omega)).mp z)
            refine ⟨I1, some (.int (rst (gI I) n)), e1, fun P => (hw P).trans (w153_51.trans ?_)⟩
            simp (discharger := omega) only [↓w153_0, ↓w153_1, ↓w153_2, ↓w153_5, ↓w153_8, ↓w153_9, ↓w153_10, ↓w153_11, ↓w153_14, ↓w153_15, ↓w153_16, ↓w153_17, ↓w153_20, ↓w153_21, ↓w153_22, ↓w153_25, ↓w153_26, ↓w153_27, ↓w153_28, ↓w153_31, ↓w153_32, ↓w153_35, ↓w153_36, ↓w153_37, ↓w153_40, ↓w153_43, ↓w153_45, ↓w153_46, ↓w153_48, ↓w153_49, ↓w153_53, ↓w153_55, ↓w153_58, ↓w153_60, ↓w153_62, ↓w153_63, ↓w153_64, ↓w153_65, ↓w153_67, ↓w153_69, ↓w153_72, ↓w153_73, ↓w153_76, ↓w153_79, ↓w153_80, ↓w153_81, ↓w153_84, ↓w153_86, ↓w153_87, ↓w153_88, ↓w153_89, ↓w153_90, ↓w153_93, ↓w153_94, ↓w153_97, ↓w153_98, ↓w153_101, ↓w153_103, ↓w153_104, ↓w153_105, ↓w153_108, ↓w153_111, ↓w153_114, ↓w153_117, ↓w153_120, ↓w153_122, ↓hbc, q1', q1, est, hN1, pk_div, hlt, ↓kc_i, ↓kc_l, ↓kc_r, ↓kc_n, rc64, g64_0, g64_1, g64_2, g64_3, g64_4, g64_5, g64_6, g64_7, g64_8, g64_9, g64_10, g64_11, g64_12, rc76, g76_0, p76_0, g76_1, p76_1, g76_2, p76_2, g76_3, g76_4, g76_5, g76_6, g76_7, g76_8, mul8, mul8', mul4, mul4', nI_add, inT, nclN, ltT, ltF, leT, leF, eqT, eqF, nzF, m1F, m1T, shr, shg, bI0, bI1, bo_bI, bo_1, bo_0, eq10, eq00, frT1, frT2, frT3, fit0, fit1, fit2, fit3, true_and, and_true, ↓reduceIte, Nat.reduceAdd, Nat.reduceMul, and_self, not_false_eq_true, not_true_eq_false, Nat.zero_add, Nat.add_zero, decide_false, Bool.false_and, Bool.false_eq_true]
      obtain ⟨I1, t, e1, hw⟩ := key _ (Nat.le_refl _)
      refine ⟨I1, e1, fun P => ?_⟩
      simp (discharger := omega) only [↓w153_0, ↓w153_1, ↓w153_2, ↓w153_5, ↓w153_8, ↓w153_9, ↓w153_10, ↓w153_11, ↓w153_14, ↓w153_15, ↓w153_16, ↓w153_17, ↓w153_20, ↓w153_21, ↓w153_22, ↓w153_25, ↓w153_26, ↓w153_27, ↓w153_28, ↓w153_31, ↓w153_32, ↓w153_35, ↓w153_36, ↓w153_37, ↓w153_40, ↓w153_43, ↓w153_45, ↓w153_46, ↓w153_48, ↓w153_49, ↓w153_53, ↓w153_55, ↓w153_58, ↓w153_60, ↓w153_62, ↓w153_63, ↓w153_64, ↓w153_65, ↓w153_67, ↓w153_69, ↓w153_72, ↓w153_73, ↓w153_76, ↓w153_79, ↓w153_80, ↓w153_81, ↓w153_84, ↓w153_86, ↓w153_87, ↓w153_88, ↓w153_89, ↓w153_90, ↓w153_93, ↓w153_94, ↓w153_97, ↓w153_98, ↓w153_101, ↓w153_103, ↓w153_104, ↓w153_105, ↓w153_108, ↓w153_111, ↓w153_114, ↓w153_117, ↓w153_120, ↓w153_122, ↓k_isCommand hM, hx, bI_t, ↓hrw, ↓hfo, ↓k_cellOf, ↓k_allReplicas hN h5, hn0, ↓kc_i, ↓kc_l, ↓kc_r, ↓kc_n, rc64, g64_0, g64_1, g64_2, g64_3, g64_4, g64_5, g64_6, g64_7, g64_8, g64_9, g64_10, g64_11, g64_12, rc102, g102_0, p102_0, g102_1, p102_1, g102_2, g102_3, g102_4, g102_5, g102_6, g102_7, g102_8, g102_9, g102_10, g102_11, g102_12, rc76, g76_0, p76_0, g76_1, p76_1, g76_2, p76_2, g76_3, g76_4, g76_5, g76_6, g76_7, g76_8, mul8, mul8', mul4, mul4', nI_add, inT, nclN, ltT, ltF, leT, leF, eqT, eqF, nzF, m1F, m1T, shr, shg, bI0, bI1, bo_bI, bo_1, bo_0, eq10, eq00, frT1, frT2, frT3, fit0, fit1, fit2, fit3, true_and, and_true, ↓reduceIte, Nat.reduceAdd, Nat.reduceMul, and_self, not_false_eq_true, not_true_eq_false, Nat.zero_add, Nat.add_zero]
      rw [hw P]
      refine w153_51.trans ?_
      have hp2 := p2 h5
      have hgt : allR (gN (gI I)) < nI (2 ^ gN (gI I)) := by rw [allR_n h5]; exact nI_lt (by omega) (by omega)
      simp (discharger := omega) only [↓w153_0, ↓w153_1, ↓w153_2, ↓w153_5, ↓w153_8, ↓w153_9, ↓w153_10, ↓w153_11, ↓w153_14, ↓w153_15, ↓w153_16, ↓w153_17, ↓w153_20, ↓w153_21, ↓w153_22, ↓w153_25, ↓w153_26, ↓w153_27, ↓w153_28, ↓w153_31, ↓w153_32, ↓w153_35, ↓w153_36, ↓w153_37, ↓w153_40, ↓w153_43, ↓w153_45, ↓w153_46, ↓w153_48, ↓w153_49, ↓w153_53, ↓w153_55, ↓w153_58, ↓w153_60, ↓w153_62, ↓w153_63, ↓w153_64, ↓w153_65, ↓w153_67, ↓w153_69, ↓w153_72, ↓w153_73, ↓w153_76, ↓w153_79, ↓w153_80, ↓w153_81, ↓w153_84, ↓w153_86, ↓w153_87, ↓w153_88, ↓w153_89, ↓w153_90, ↓w153_93, ↓w153_94, ↓w153_97, ↓w153_98, ↓w153_101, ↓w153_103, ↓w153_104, ↓w153_105, ↓w153_108, ↓w153_111, ↓w153_114, ↓w153_117, ↓w153_120, ↓w153_122, hgt, mul8, mul8', mul4, mul4', nI_add, inT, nclN, ltT, ltF, leT, leF, eqT, eqF, nzF, m1F, m1T, shr, shg, bI0, bI1, bo_bI, bo_1, bo_0, eq10, eq00, frT1, frT2, frT3, fit0, fit1, fit2, fit3, true_and, and_true, ↓reduceIte, Nat.reduceAdd, Nat.reduceMul, and_self, not_false_eq_true, not_true_eq_false, Nat.zero_add, Nat.add_zero]
      unfold ris
      exact Eq.refl _
  · have hx' := Bool.eq_false_iff.mpr hx
    rw [if_neg hx]
    refine ⟨I, fun a _ => Eq.refl _, fun P => ?_⟩
    simp (discharger := omega) only [↓w153_0, ↓w153_1, ↓w153_2, ↓w153_5, ↓w153_8, ↓w153_9, ↓w153_10, ↓w153_11, ↓w153_14, ↓w153_15, ↓w153_16, ↓w153_17, ↓w153_20, ↓w153_21, ↓w153_22, ↓w153_25, ↓w153_26, ↓w153_27, ↓w153_28, ↓w153_31, ↓w153_32, ↓w153_35, ↓w153_36, ↓w153_37, ↓w153_40, ↓w153_43, ↓w153_45, ↓w153_46, ↓w153_48, ↓w153_49, ↓w153_53, ↓w153_55, ↓w153_58, ↓w153_60, ↓w153_62, ↓w153_63, ↓w153_64, ↓w153_65, ↓w153_67, ↓w153_69, ↓w153_72, ↓w153_73, ↓w153_76, ↓w153_79, ↓w153_80, ↓w153_81, ↓w153_84, ↓w153_86, ↓w153_87, ↓w153_88, ↓w153_89, ↓w153_90, ↓w153_93, ↓w153_94, ↓w153_97, ↓w153_98, ↓w153_101, ↓w153_103, ↓w153_104, ↓w153_105, ↓w153_108, ↓w153_111, ↓w153_114, ↓w153_117, ↓w153_120, ↓w153_122, ↓k_isCommand hM, hx', bI_f, ↓kc_i, ↓kc_l, ↓kc_r, ↓kc_n, rc64, g64_0, g64_1, g64_2, g64_3, g64_4, g64_5, g64_6, g64_7, g64_8, g64_9, g64_10, g64_11, g64_12, mul8, mul8', mul4, mul4', nI_add, inT, nclN, ltT, ltF, leT, leF, eqT, eqF, nzF, m1F, m1T, shr, shg, bI0, bI1, bo_bI, bo_1, bo_0, eq10, eq00, frT1, frT2, frT3, fit0, fit1, fit2, fit3, true_and, and_true, ↓reduceIte, Nat.reduceAdd, Nat.reduceMul, and_self, not_false_eq_true, not_true_eq_false, Nat.zero_add, Nat.add_zero]
end F9
